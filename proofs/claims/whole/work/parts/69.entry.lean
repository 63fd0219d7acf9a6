theorem cn_nil {p : Nat → Bool} : ∀ n, (∀ i, i < n → p i = false) → cn p n = 0
  | 0, _ => rfl
  | n + 1, h => by rw [cn_f (h n (Nat.lt_succ_self n)), cn_nil n (fun i hi => h i (Nat.lt_succ_of_lt hi))]
theorem j0_crew : ∀ i, i < 8 → J00 (1 + 8 + (1 + i)) = (fun _ => 0) ∧ J00 (1 + 8 + (1 + i) + 8) = (fun _ => 0) := by
  intro i hi
  rcases (show i = 0 ∨ i = 1 ∨ i = 2 ∨ i = 3 ∨ i = 4 ∨ i = 5 ∨ i = 6 ∨ i = 7 from by omega) with rfl | rfl | rfl | rfl | rfl | rfl | rfl | rfl <;> exact ⟨rfl, rfl⟩
theorem j0_RX {z : Nat} (h : J00 (z + 5) = (fun _ => 0)) (h2 : J00 (z + 5 + 1) = flF (-1)) : RX z J00 := by
  have hm : ∀ c, c < 256 → J00 (z + 5 + 1) c = -1 := fun c hc => by rw [h2]; exact if_pos hc
  refine ⟨0, fun _ => 0, by decide, by rw [h]; rfl, fun j hj => absurd hj (Nat.not_lt_zero _), fun j hj => absurd hj (Nat.not_lt_zero _), fun j hj => absurd hj (Nat.not_lt_zero _), fun c hc hn => absurd (hm c hc) hn, cn_nil 256 (fun i hi => ?_)⟩
  exact decide_eq_false (fun y => y (hm i hi))
theorem j0_IV : IV J00 1 0 := by
  refine ⟨⟨rfl, by decide, fun i hi => absurd hi (Nat.not_lt_zero _), fun i hi => ?_, fun i hi => absurd hi (Nat.not_lt_zero _)⟩, fun c hc => ⟨3, by decide, if_pos hc⟩, fun c hc _ => ⟨rfl, rfl⟩, fun c hc => Or.inl rfl, fun i hi => absurd hi (Nat.not_lt_zero _), fun i _ hi => ?_, fun i hi j hj => ⟨0, by decide, ?_⟩⟩
  · rw [(j0_crew i hi).1]; exact Or.inl rfl
  · rw [(j0_crew i hi).1]; exact ⟨rfl, rfl, rfl, rfl⟩
  · rw [(j0_crew i hi).2]; rfl
theorem j0_LI {V : Mm} (h : M0p V) : LI J00 V 0 := by
  obtain ⟨h1, h2⟩ := h
  refine ⟨j0_IV, j0_RX rfl rfl, j0_RX rfl rfl, h1 0 (by decide) 6, fun j hj c hc => ?_, fun i hi => ⟨fun f hf => ?_, ?_, fun j hj => ?_⟩, ⟨h1 5 (by decide) 0, h1 5 (by decide) 1, h1 5 (by decide) 2⟩, h1 5 (by decide) 3⟩
  · rcases (show j = 0 ∨ j = 1 ∨ j = 2 from by omega) with rfl | rfl | rfl
    · exact (h2 c hc).trans (if_pos hc).symm
    · exact h1 2 (by decide) c
    · exact h1 3 (by decide) c
  · rw [(j0_crew i hi).1]; exact h1 4 (by decide) _
  · rw [(j0_crew i hi).1]; exact h1 4 (by decide) _
  · rw [(j0_crew i hi).2]; exact h1 4 (by decide) _
theorem Ap_of2 {K : List Nat} {cs : Nat → ClassId} {ad : Nat → Nat} {I : Mm} {X : va_W} {A : Nat → Prop} (h : va_D A (X ++ gw K cs ad I)) : Ap K ad X := fun j q hq i hi e => by
  have h1 : (X ++ gw K cs ad I)[X.length + i]? = some (ad i, cw cs (K.getD i 0) (fun d => ad (i + d)) (I i)) := app_rt (gw_get hi)
  have h2 : (X ++ gw K cs ad I)[j]? = some q := app_lt hq
  have := h.1 j (X.length + i) _ _ h2 h1 e
  have := (List.getElem?_eq_some_iff.mp hq).1
  omega
/-- the classes' and the array classes' numbers -/
theorem law_K {s : State} {a : Array Value} (hts : ∀ w ∈ lw_tbl, w.before a s = true) : ∃ (D : va_G) (cs : Nat → ClassId), va_K D vwCl (tyA cs) s := by
  obtain ⟨c0, iS0, hKn0⟩ := u_known (C := RX0) (T := TX0) (N := 7) (n := 7) hts wsX00_in (hts (.instantiable RX0 7) (List.mem_append_right _ (List.mem_of_getElem? (i := 26) (by decide +kernel))))
  obtain ⟨c1, iS1, hKn1⟩ := u_known (C := RX1) (T := TX1) (N := 4) (n := 4) hts wsX10_in (hts (.instantiable RX1 4) (List.mem_append_right _ (List.mem_of_getElem? (i := 52) (by decide +kernel))))
  obtain ⟨c2, iS2, hKn2⟩ := u_known (C := RX2) (T := TX2) (N := 3) (n := 3) hts wsX20_in (hts (.instantiable RX2 3) (List.mem_append_right _ (List.mem_of_getElem? (i := 146) (by decide +kernel))))
  obtain ⟨c3, iS3, hKn3⟩ := u_known (C := RX3) (T := TX3) (N := 3) (n := 3) hts wsX30_in (hts (.instantiable RX3 3) (List.mem_append_right _ (List.mem_of_getElem? (i := 32) (by decide +kernel))))
  obtain ⟨c4, iS4, hKn4⟩ := u_known (C := RX4) (T := TX4) (N := 8) (n := 8) hts wsX40_in (hts (.instantiable RX4 8) (List.mem_append_right _ (List.mem_of_getElem? (i := 74) (by decide +kernel))))
  obtain ⟨c5, iS5, hKn5⟩ := u_known (C := RX5) (T := TX5) (N := 3) (n := 3) hts wsX50_in (hts (.instantiable RX5 3) (List.mem_append_right _ (List.mem_of_getElem? (i := 18) (by decide +kernel))))
  obtain ⟨c6, iS6, hKn6⟩ := u_known (C := RX6) (T := TX6) (N := 8) (n := 8) hts wsX60_in (hts (.instantiable RX6 8) (List.mem_append_right _ (List.mem_of_getElem? (i := 663) (by decide +kernel))))
  obtain ⟨dC, dI, hKc⟩ : ∃ (dC : Nat → ClassId) (dI : Nat → Nat → Nat), ∀ (k : Nat) (q : vw_C), vwCl[k]? = some q → u_Kn s q.1 q.2.1 q.2.2 (dC k) (dI k) := by
    refine ⟨fun k => match k with | 0 => c0 | 1 => c1 | 2 => c2 | 3 => c3 | 4 => c4 | 5 => c5 | _ => c6, fun k => match k with | 0 => iS0 | 1 => iS1 | 2 => iS2 | 3 => iS3 | 4 => iS4 | 5 => iS5 | _ => iS6, ?_⟩
    intro k q hq
    match k, hq with
    | 0, hq => cases hq; exact hKn0
    | 1, hq => cases hq; exact hKn1
    | 2, hq => cases hq; exact hKn2
    | 3, hq => cases hq; exact hKn3
    | 4, hq => cases hq; exact hKn4
    | 5, hq => cases hq; exact hKn5
    | 6, hq => cases hq; exact hKn6
    | k + 7, hq => simp [vwCl] at hq
  obtain ⟨a0, k0, p0, f0, g0, h0⟩ := Cond.arrayClass_spec (hts (.arrayClass .int) (List.mem_append_right _ (List.mem_of_getElem? (i := 50) (by decide +kernel))))
  obtain ⟨p1, a1, k1, e1, _, g1, h1, f1⟩ := Cond.arrayOver_spec (hts (.arrayOver (.object "SnowMaze$Tunneller")) (List.mem_append_right _ (List.mem_of_getElem? (i := 73) (by decide +kernel))))
  obtain ⟨p2, a2, k2, e2, _, g2, h2, f2⟩ := arrayOverA_spec (hts (.arrayOver (.array .int)) (List.mem_append_right _ (List.mem_of_getElem? (i := 880) (by decide +kernel))))
  obtain ⟨a3, k3, p3, f3, g3, h3⟩ := Cond.arrayClass_spec (hts (.arrayClass .long) (List.mem_append_right _ (List.mem_of_getElem? (i := 913) (by decide +kernel))))
  refine ⟨(dC, dI), fun k => match k with | 0 => a0 | 1 => a1 | 2 => a2 | _ => a3, hKc, fun k q hq => ?_⟩
  match k, hq with
  | 0, hq => cases hq; exact ⟨fun n z => ⟨(fun k h => by cases h), k0, g0, p0, h0⟩, f0⟩
  | 1, hq => cases hq; exact ⟨fun n z => ⟨(fun k h => by cases h), k1, g1, p1, h1⟩, k1, p1, g1, h1, e1, f1⟩
  | 2, hq => cases hq; exact ⟨fun n z => ⟨(fun k h => by cases h), k2, g2, p2, h2⟩, f2⟩
  | 3, hq => cases hq; exact ⟨fun n z => ⟨(fun k h => by cases h), k3, g3, p3, h3⟩, f3⟩
  | k + 4, hq => simp [tyA] at hq
theorem law_NW {s : State} {a : Array Value} (hts : ∀ w ∈ lw_tbl, w.before a s = true) : NW s := fun w hw => va_Nw.of (nest_on w hw) (hts w (List.mem_append_right _ (nest_in w hw)))
theorem law_AO {s : State} {a : Array Value} (hts : ∀ w ∈ lw_tbl, w.before a s = true) : kAO s ∧ AOX s :=
  ⟨over_moved (Vm.Alike.refl _) (hts (.arrayOver (.array .int)) (List.mem_append_right _ (List.mem_of_getElem? (i := 880) (by decide +kernel)))), va_AO.of (hts (.arrayOver (.object "SnowMaze$Tunneller")) (List.mem_append_right _ (List.mem_of_getElem? (i := 73) (by decide +kernel))))⟩
theorem law_str {s : State} {a : Array Value} {k : Nat} {tx : String} (h1 : (Cond.stringRef "SnowMaze" k tx).before a s = true) (h2 : (Cond.exactly (Term.string "SnowMaze" k) "java/lang/String").before a s = true) : ∃ sa, vk_R "SnowMaze" k tx sa s := by
  obtain ⟨x, _, _, _, h3, _⟩ := Cond.exactly_spec h2
  refine ⟨x, vk_R.of h1 ?_⟩
  rw [← h3]
theorem law_XW {s : State} {a : Array Value} (hts : ∀ w ∈ lw_tbl, w.before a s = true) (hgv : (Jvm.Cond.and given_1 narrow_1).before a s = true) : XW (fun q => s.heap.size ≤ q) s s.heap := by
  have hs := flat_of_before _ hgv
  have hA : ∀ q : Nat, q < s.heap.size → ¬ s.heap.size ≤ q := fun q h => Nat.not_le.mpr h
  refine ⟨vx_Zqof (hts (.laysStatic Bundle.tN "UNASSIGNED_STACK" Bundle.steD) (List.mem_append_right _ (List.mem_of_getElem? (i := 287) (by decide +kernel)))) (hts (.initialized Bundle.tN) (List.mem_append_right _ (List.mem_of_getElem? (i := 9) (by decide +kernel)))) (hs (.isRef (.static Bundle.tN "UNASSIGNED_STACK" Bundle.steD)) (by decide +kernel)) hA, vx_Zqof (hts (.laysStatic Bundle.tN "SUPPRESSED_SENTINEL" Bundle.listD) (List.mem_append_right _ (List.mem_of_getElem? (i := 289) (by decide +kernel)))) (hts (.initialized Bundle.tN) (List.mem_append_right _ (List.mem_of_getElem? (i := 9) (by decide +kernel)))) (hs (.isRef (.static Bundle.tN "SUPPRESSED_SENTINEL" Bundle.listD)) (by decide +kernel)) hA, ?_, ?_⟩
  · exact List.forall_mem_cons.mpr ⟨law_str (hts (.stringRef "SnowMaze" 177 "the counts are 0 to 8") (List.mem_append_right _ (List.mem_of_getElem? (i := 301) (by decide +kernel)))) (hs (.exactly (.string "SnowMaze" 177) "java/lang/String") (by decide +kernel)), List.forall_mem_cons.mpr ⟨law_str (hts (.stringRef "SnowMaze" 236 "no such tunneller") (List.mem_append_right _ (List.mem_of_getElem? (i := 346) (by decide +kernel)))) (hs (.exactly (.string "SnowMaze" 236) "java/lang/String") (by decide +kernel)), List.forall_mem_cons.mpr ⟨law_str (hts (.stringRef "SnowMaze" 141 "a tunneller tells 0 to 8") (List.mem_append_right _ (List.mem_of_getElem? (i := 354) (by decide +kernel)))) (hs (.exactly (.string "SnowMaze" 141) "java/lang/String") (by decide +kernel)), List.forall_mem_cons.mpr ⟨law_str (hts (.stringRef "SnowMaze" 231 "no such cell") (List.mem_append_right _ (List.mem_of_getElem? (i := 368) (by decide +kernel)))) (hs (.exactly (.string "SnowMaze" 231) "java/lang/String") (by decide +kernel)), List.forall_mem_cons.mpr ⟨law_str (hts (.stringRef "SnowMaze" 32 "no such sort") (List.mem_append_right _ (List.mem_of_getElem? (i := 378) (by decide +kernel)))) (hs (.exactly (.string "SnowMaze" 32) "java/lang/String") (by decide +kernel)), List.forall_mem_cons.mpr ⟨law_str (hts (.stringRef "SnowMaze" 43 "a tunneller is there") (List.mem_append_right _ (List.mem_of_getElem? (i := 398) (by decide +kernel)))) (hs (.exactly (.string "SnowMaze" 43) "java/lang/String") (by decide +kernel)), List.forall_mem_cons.mpr ⟨law_str (hts (.stringRef "SnowMaze" 78 "a cell tells 0 to 5") (List.mem_append_right _ (List.mem_of_getElem? (i := 424) (by decide +kernel)))) (hs (.exactly (.string "SnowMaze" 78) "java/lang/String") (by decide +kernel)), List.forall_mem_cons.mpr ⟨law_str (hts (.stringRef "SnowMaze" 81 "posts are 0 to 20") (List.mem_append_right _ (List.mem_of_getElem? (i := 432) (by decide +kernel)))) (hs (.exactly (.string "SnowMaze" 81) "java/lang/String") (by decide +kernel)), List.forall_mem_cons.mpr ⟨law_str (hts (.stringRef "SnowMaze" 83 "lamps are 0 to 9") (List.mem_append_right _ (List.mem_of_getElem? (i := 433) (by decide +kernel)))) (hs (.exactly (.string "SnowMaze" 83) "java/lang/String") (by decide +kernel)), List.forall_mem_cons.mpr ⟨law_str (hts (.stringRef "SnowMaze" 88 "nobody can come there") (List.mem_append_right _ (List.mem_of_getElem? (i := 438) (by decide +kernel)))) (hs (.exactly (.string "SnowMaze" 88) "java/lang/String") (by decide +kernel)), List.forall_mem_cons.mpr ⟨law_str (hts (.stringRef "SnowMaze" 94 "there are 8 tunnellers") (List.mem_append_right _ (List.mem_of_getElem? (i := 439) (by decide +kernel)))) (hs (.exactly (.string "SnowMaze" 94) "java/lang/String") (by decide +kernel)), List.forall_mem_cons.mpr ⟨law_str (hts (.stringRef "SnowMaze" 104 "orders are 0 to 6") (List.mem_append_right _ (List.mem_of_getElem? (i := 452) (by decide +kernel)))) (hs (.exactly (.string "SnowMaze" 104) "java/lang/String") (by decide +kernel)), List.forall_mem_cons.mpr ⟨law_str (hts (.stringRef "SnowMaze" 106 "times are 1 to 9") (List.mem_append_right _ (List.mem_of_getElem? (i := 453) (by decide +kernel)))) (hs (.exactly (.string "SnowMaze" 106) "java/lang/String") (by decide +kernel)), List.forall_mem_cons.mpr ⟨law_str (hts (.stringRef "SnowMaze" 113 "there would be more than 24 orders") (List.mem_append_right _ (List.mem_of_getElem? (i := 454) (by decide +kernel)))) (hs (.exactly (.string "SnowMaze" 113) "java/lang/String") (by decide +kernel)), List.forall_mem_cons.mpr ⟨law_str (hts (.stringRef "SnowMaze" 233 "ticks are 1 to 100") (List.mem_append_right _ (List.mem_of_getElem? (i := 480) (by decide +kernel)))) (hs (.exactly (.string "SnowMaze" 233) "java/lang/String") (by decide +kernel)), List.forall_mem_cons.mpr ⟨law_str (hts (.stringRef "SnowMaze" 195 "caves tell 0 to 2") (List.mem_append_right _ (List.mem_of_getElem? (i := 608) (by decide +kernel)))) (hs (.exactly (.string "SnowMaze" 195) "java/lang/String") (by decide +kernel)), List.forall_mem_cons.mpr ⟨law_str (hts (.stringRef "SnowMaze" 197 "both are the same") (List.mem_append_right _ (List.mem_of_getElem? (i := 616) (by decide +kernel)))) (hs (.exactly (.string "SnowMaze" 197) "java/lang/String") (by decide +kernel)), List.forall_mem_cons.mpr ⟨law_str (hts (.stringRef "SnowMaze" 207 "what is foreseen is 0 to 3") (List.mem_append_right _ (List.mem_of_getElem? (i := 645) (by decide +kernel)))) (hs (.exactly (.string "SnowMaze" 207) "java/lang/String") (by decide +kernel)), fun _ h => absurd h List.not_mem_nil⟩⟩⟩⟩⟩⟩⟩⟩⟩⟩⟩⟩⟩⟩⟩⟩⟩⟩
  · exact List.forall_mem_cons.mpr ⟨va_Nc.of (hs (.not (.castable "java/lang/IllegalArgumentException" "java/lang/IndexOutOfBoundsException")) (by decide +kernel)), List.forall_mem_cons.mpr ⟨va_Nc.of (hs (.not (.castable "java/lang/IllegalStateException" "java/lang/IndexOutOfBoundsException")) (by decide +kernel)), List.forall_mem_cons.mpr ⟨va_Nc.of (hs (.not (.castable "java/lang/IllegalStateException" "java/lang/IllegalArgumentException")) (by decide +kernel)), List.forall_mem_cons.mpr ⟨va_Nc.of (hs (.not (.castable "java/lang/IndexOutOfBoundsException" "java/lang/IllegalArgumentException")) (by decide +kernel)), fun _ h => absurd h List.not_mem_nil⟩⟩⟩⟩
theorem r_newL {p : Program} {l : Launch} {e : Env} {R : Room} {s : State} {m : MethodId} {args : Array Value} {below : List Frame} {meth : Method} {c : Code} {H : Heap} {locs : List Loc} {cells slots : Nat} {Q : State → Prop} {cc : ByteArray} {pc : Nat} {ls : Array Slot} {rest : List Value} {D : va_G} {cs : Nat → ClassId} {A : Nat → Prop} {H0 : Heap} {ws : va_W}
    (hx : p.tables.exec = Jvm.exec) (hb : c.code = cc) (harr : (Cond.arrayClass .long).before args s = true) (hK : va_K D vwCl (tyA cs) s) (hP : va_P D vwCl ws H) (hD : va_D A ws) (hS : va_S A H0 H locs) (hA : ∀ q, H0.size ≤ q → A q) (hcells : cells + 1 ≤ R.cells) (hslots : slots + 1 ≤ R.slots) (hdg : decode cc pc = .ok (.newarray .long, 2))
    (kk : ∀ (q : Nat) (H1 : Heap), va_P D vwCl (ws ++ [(q, lgE cs (fun _ => 0))]) H1 → va_D A (ws ++ [(q, lgE cs (fun _ => 0))]) → va_S A H0 H1 locs → W p l e R s m args below meth c H1 locs (cells + 1) (slots + 1) Q (F0 m (pc + 2) ls (.ref q :: rest))) : W p l e R s m args below meth c H locs cells slots Q (F0 m pc ls (.int (nI 1) :: rest)) := by
  refine va_newa (atype := .long) hx hb harr rfl hK hP hD hS hA (a0 := (1, .inr (.inl (fun _ => 0)))) (N' := 1) (fun cA => rfl) (nI_pos (by decide)) (nI_clamp (by decide)) (Nat.le_of_ble_eq_true rfl) hcells hslots hdg (fun q cA H1 hK2 hP1 hD1 hS1 => ?_)
  have e : cA = cs 3 := by
    have h1 := (hK2.2 4 (cA, .long) rfl).2
    have h2 := (hK.2 3 (cs 3, .long) rfl).2
    exact Option.some.inj (h1.symm.trans h2)
  subst e
  exact kk q H1 hP1 hD1 hS1
set_option maxHeartbeats 4000000 in
set_option maxRecDepth 100000 in
/-- the law from its entry, over any record of draws -/
theorem law_entry {pg : Program} {l : Launch} {e : Env} {s : State} {m : MethodId} {below : List Frame} {meth : Method} {c : Code} {Q : State → Prop} {D : va_G} {cs : Nat → ClassId} {b L : Nat} {xs : Nat → Int32} {ls : Array Slot}
    (X : LCx pg l s m c D cs (fun q => s.heap.size ≤ q) b L xs) (htsT : ∀ w ∈ lw_tbl, w.before #[Value.ref b] s = true) (hAX : AOX s) (hret : ∀ (H : Heap) (ls : Array Slot), W pg l e room_1 s m #[Value.ref b] below meth c H [] room_1.cells room_1.slots Q (F0 m 1202 ls [.int 1])) (hl : lv_has ls 9 [(0, .ref b)]) : W pg l e room_1 s m #[Value.ref b] below meth c s.heap [] 0 0 Q (F0 m 0 ls []) := by
  obtain ⟨hx, hb, hml, hown, hts, hscr, hbl, hbA, hK, hN, hXW, hAO, hA, hL, hst⟩ := id X
  have hS : va_S (fun q : Nat => s.heap.size ≤ q) s.heap s.heap [] := va_S.rf
  have hP : va_P D vwCl [] s.heap := fun k q h => by simp at h
  have hD : va_D (fun q : Nat => s.heap.size ≤ q) [] := ⟨fun i j p q h => by simp at h, fun k q h => by simp at h⟩
  refine va_new (ci := 5) (fs := [.null, .null, .null]) (C := RX5) (T := TX5) (N := 3) hx hb htsT wsX50_in tyX5 tyX5_ok hown (htsT (.classLink RL 8 RX5) (List.mem_append_right _ (List.mem_of_getElem? (i := 17) (by decide +kernel)))) (htsT (.instantiable RX5 3) (List.mem_append_right _ (List.mem_of_getElem? (i := 18) (by decide +kernel)))) (htsT (.initialized RX5) (List.mem_append_right _ (List.mem_of_getElem? (i := 1) (by decide +kernel)))) hK hP hD hS hA rfl (fun j hj => by rcases (show j = 0 ∨ j = 1 ∨ j = 2 from by omega) with rfl | rfl | rfl <;> rfl) (Nat.le_of_ble_eq_true rfl) (Nat.le_of_ble_eq_true rfl) dL_law_0 (fun q H hP hD hS => ?_)
  refine lv_dup hx hb dL_law_3 rfl ?_
  refine r_ctor (L := []) (Wf := fun u => gw kC cs u J00) (post := fun u : Nat → Nat => u 0 = q) hP hD hS hA (va_runI (As := []) (rest := [.ref q]) ⟨hx, hb, hml, hown, hts⟩ (c_X5_init l D cs q H.size) (cwI 0 hts gL_law_X5_init rfl rfl rfl (htsT (.initialized RX5) (List.mem_append_right _ (List.mem_of_getElem? (i := 1) (by decide +kernel)))) (htsT (.methodLink RL 61 yX5_init) (List.mem_append_right _ (List.mem_of_getElem? (i := 19) (by decide +kernel)))) (htsT (.instanceMethod yX5_init) (List.mem_append_right _ (List.mem_of_getElem? (i := 20) (by decide +kernel)))) rfl (by decide +kernel) ⟨Nat.le_of_ble_eq_true rfl, Nat.le_of_ble_eq_true rfl⟩) (l_preS (X := AOX) (fun _ _ h3 h4 => va_AO.moved h3 h4) (P_right (w1 := []) hP) (D_right (w1 := []) hD) hK hN hAX) rfl rfl hl.1 rfl (lv_room (Nat.le_of_ble_eq_true rfl)) dL_law_4 ⟨Nat.le_of_ble_eq_true rfl, Nat.le_of_ble_eq_true rfl⟩) (fun u H locs hu hP hD hS => ?_)
  refine lv_astore_n (lv' := [(1, .ref q), (0, .ref b)]) hx hb dL_law_7 rfl hl (by decide) rfl (fun ls hl => ?_)
  refine va_new (ci := 6) (fs := [.int 0, .null, .null, .null, .null, .null, .int 0, .null]) (C := RX6) (T := TX6) (N := 8) hx hb htsT wsX60_in tyX6 tyX6_ok hown (htsT (.classLink RL 62 RX6) (List.mem_append_right _ (List.mem_of_getElem? (i := 662) (by decide +kernel)))) (htsT (.instantiable RX6 8) (List.mem_append_right _ (List.mem_of_getElem? (i := 663) (by decide +kernel)))) (htsT (.initialized RX6) (List.mem_append_right _ (List.mem_of_getElem? (i := 8) (by decide +kernel)))) hK hP hD hS hA rfl (fun j hj => by rcases (show j = 0 ∨ j = 1 ∨ j = 2 ∨ j = 3 ∨ j = 4 ∨ j = 5 ∨ j = 6 ∨ j = 7 from by omega) with rfl | rfl | rfl | rfl | rfl | rfl | rfl | rfl <;> rfl) (Nat.le_of_ble_eq_true rfl) (Nat.le_of_ble_eq_true rfl) dL_law_8 (fun qm H hP hD hS => ?_)
  refine lv_dup hx hb dL_law_11 rfl ?_
  refine r_ctor (L := [] ++ gw kC cs u J00) (Wf := fun u : (Nat → Nat) × Mm => gw kM cs u.1 u.2) (post := fun u : (Nat → Nat) × Mm => u.1 0 = qm ∧ M0p u.2) hP hD hS hA (va_runI (As := []) (rest := [.ref qm]) ⟨hx, hb, hml, hown, hts⟩ (c_X6_init l D cs qm H.size) (cwI 0 hts gL_law_X6_init rfl rfl rfl (htsT (.initialized RX6) (List.mem_append_right _ (List.mem_of_getElem? (i := 8) (by decide +kernel)))) (htsT (.methodLink RL 64 yX6_init) (List.mem_append_right _ (List.mem_of_getElem? (i := 664) (by decide +kernel)))) (htsT (.instanceMethod yX6_init) (List.mem_append_right _ (List.mem_of_getElem? (i := 665) (by decide +kernel)))) rfl (by decide +kernel) ⟨Nat.le_of_ble_eq_true rfl, Nat.le_of_ble_eq_true rfl⟩) (l_preS (X := TrX) (fun _ _ _ h => h) (P_right (w1 := [] ++ gw kC cs u J00) hP) (D_right (w1 := [] ++ gw kC cs u J00) hD) hK hN trivial) rfl rfl hl.1 rfl (lv_room (Nat.le_of_ble_eq_true rfl)) dL_law_12 ⟨Nat.le_of_ble_eq_true rfl, Nat.le_of_ble_eq_true rfl⟩) (fun v H locs hv hP hD hS => ?_)
  obtain ⟨hv0, hM0⟩ := hv
  refine lv_astore_n (lv' := [(2, .ref qm), (1, .ref q), (0, .ref b)]) hx hb dL_law_15 rfl hl (by decide) rfl (fun ls hl => ?_)
  refine lv_iconst (v := nI 1) hx hb dL_law_16 (by decide) ?_
  refine r_newL hx hb (htsT (.arrayClass .long) (List.mem_append_right _ (List.mem_of_getElem? (i := 913) (by decide +kernel)))) hK hP hD hS hA (Nat.le_of_ble_eq_true rfl) (Nat.le_of_ble_eq_true rfl) dL_law_17 (fun qo H hP hD hS => ?_)
  refine lv_astore_n (lv' := [(3, .ref qo), (2, .ref qm), (1, .ref q), (0, .ref b)]) hx hb dL_law_19 rfl hl (by decide) rfl (fun ls hl => ?_)
  refine lv_iconst (v := nI 0) hx hb dL_law_20 (by decide) ?_
  refine lv_istore (lv' := [(4, .int (nI 0)), (3, .ref qo), (2, .ref qm), (1, .ref q), (0, .ref b)]) hx hb dL_law_21 hl (by decide) rfl (fun ls hl => ?_)
  have hPX : va_P D vwCl (lX cs u J00 qo (fun _ => 0)) H := (P_left (P_left hP)).app (P_right hP)
  have hsw := hD.swap
  have hDX : va_D (fun q : Nat => s.heap.size ≤ q) (lX cs u J00 qo (fun _ => 0)) := D_left hsw
  have hDM := D_right hsw
  have hap : Ap kM v.1 (lX cs u J00 qo (fun _ => 0)) := Ap_of2 (X := lX cs u J00 qo (fun _ => 0)) hsw
  exact law_loop X (fun _ h => h) hret (L + 1) 0 v.1 J00 v.2 0 (fun _ => 0) H locs ls _ _ (by omega) (Nat.zero_le _) (by rw [hu]; exact lv_sub hl [4, 3, 2, 1, 0] rfl) ⟨j0_LI hM0, hPX, hDX, P_right (P_left hP), hDM, hap, hv0⟩ hS (Nat.le_of_ble_eq_true rfl) (Nat.le_of_ble_eq_true rfl)
