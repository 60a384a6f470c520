theorem nest_in : ∀ w ∈ nestL, w ∈ lw_tbl := by decide +kernel
set_option maxHeartbeats 4000000 in
set_option maxRecDepth 100000 in
theorem whole_start {p : Program} {e : Env} {s : State} {m : MethodId} {below : List Frame} {meth : Method} {c : Code} (l : Launch) {b L : Nat} {xs : Nat → Int32} (hL : L ≤ 1536) (C0 : lw_At p s m meth c b L xs) : W p l e room_1 s m #[Value.ref b] below meth c s.heap [] 0 0 (lw_Z below #[Value.ref b] s) (entryFrame m ([Value.ref b] : List Value).toArray 4) := by
  obtain ⟨hx, hb, hr, hml, hown, hts, hX, hbl, hlocks, hgv⟩ := id C0
  have hA : ∀ q : Nat, s.heap.size ≤ q → (fun q : Nat => s.heap.size ≤ q) q := fun _ h => h
  have hbA : ¬ (fun q : Nat => s.heap.size ≤ q) b := Nat.not_le.mpr hbl
  have hts2 : ∀ w ∈ wsL_law, w.before #[Value.ref b] s = true := fun w h => hts w (wsL_law_in w h)
  have hown : s.vm.findClass RL = some m.cls := hown
  have hN : nestP s := nest_of (fun w hw => hts w (nest_in w hw))
  obtain ⟨c0, iS0, hKn0⟩ := u_known (C := RX0) (T := TX0) (N := 10) (n := 10) hts inX0 (hts2 (.instantiable RX0 10) (by decide +kernel))
  obtain ⟨c1, iS1, hKn1⟩ := u_known (C := RX2) (T := TX2) (N := 4) (n := 4) hts inX2 (hts2 (.instantiable RX2 4) (by decide +kernel))
  obtain ⟨c2, iS2, hKn2⟩ := u_known (C := RX3) (T := TX3) (N := 2) (n := 2) hts inX3 (hts2 (.instantiable RX3 2) (by decide +kernel))
  obtain ⟨c3, iS3, hKn3⟩ := u_known (C := RX4) (T := TX4) (N := 22) (n := 22) hts inX4 (hts2 (.instantiable RX4 22) (by decide +kernel))
  obtain ⟨dC, dI, hKc⟩ : ∃ (dC : Nat → ClassId) (dI : Nat → Nat → Nat), ∀ (k : Nat) (q : vw_C), vwCl[k]? = some q → u_Kn s q.1 q.2.1 q.2.2 (dC k) (dI k) := by
    refine ⟨fun k => if k = 0 then c0 else if k = 1 then c1 else if k = 2 then c2 else c3, fun k => if k = 0 then iS0 else if k = 1 then iS1 else if k = 2 then iS2 else iS3, ?_⟩
    intro k q hq
    match k, hq with
    | 0, hq => cases hq; exact hKn0
    | 1, hq => cases hq; exact hKn1
    | 2, hq => cases hq; exact hKn2
    | 3, hq => cases hq; exact hKn3
    | k + 4, hq => simp [vwCl] at hq
  obtain ⟨cA, kA, comp, ha1, ha2, ha3⟩ := Cond.arrayClass_spec (hts2 (.arrayClass .int) (by decide +kernel))
  have hS : va_S (fun q : Nat => s.heap.size ≤ q) s.heap s.heap [] := va_S.rf
  have hK : va_K (dC, dI) vwCl [(cA, .int)] s := by
    refine ⟨hKc, fun k q h => ?_⟩
    match k, h with
    | 0, h => cases h; exact ⟨fun n z => ⟨fun k h => (by cases h), kA, ha2, comp, ha3⟩, ha1⟩
    | k + 1, h => simp at h
  have hP : va_P (dC, dI) vwCl [] s.heap := fun k q h => by simp at h
  have hD : va_D (fun q : Nat => s.heap.size ≤ q) [] := ⟨fun i j p q h => by simp at h, fun k q h => by simp at h⟩
  have hl := lv_entry ([.ref b]) (n := 4) (Nat.le_of_ble_eq_true rfl)
  rw [lg_entry_eq]
  generalize (lg_sl ([.ref b]) ++ List.replicate (4 - (lg_sl ([.ref b])).length) Slot.unset).toArray = ls at hl ⊢
  have hl : lv_has ls 4 [(0, .ref b)] := hl
  refine va_new (ci := 2) (fs := [.null, .null]) (C := RX3) (T := TX3) (N := 2) hx hb hts inX3 tyX3 tyX3_ok hown (hts2 (.classLink RL 7 RX3) (by decide +kernel)) (hts2 (.instantiable RX3 2) (by decide +kernel)) (hts2 (.initialized RX3) (by decide +kernel)) hK hP hD hS hA rfl (fun j hj => by rcases (show j = 0 ∨ j = 1 by omega) with rfl | rfl <;> rfl) (Nat.le_of_ble_eq_true rfl) (Nat.le_of_ble_eq_true rfl) dL_law_0 (fun k0 H hP hD hS => ?_)
  have hP : va_P (dC, dI) vwCl ([(k0, .inr (2, [.null, .null]))]) H := hP
  have hD : va_D (fun q : Nat => s.heap.size ≤ q) ([(k0, .inr (2, [.null, .null]))]) := hD
  refine W.widen (k := 1) (n := 2) (Nat.le_of_ble_eq_true rfl) (Nat.le_of_ble_eq_true rfl) ?_
  refine lv_dup hx hb dL_law_3 rfl ?_
  refine cl_IE (As := []) (rest := [.ref k0]) (wr := []) hN ⟨hx, hb, hml, hown, hts2⟩ (k_X3_init l dC dI cA k0 _) (cwI 0 hts2 gL_law_X3_init rfl rfl rfl (hts2 (.initialized RX3) (by decide +kernel)) (hts2 (.methodLink RL 9 yX3_init) (by decide +kernel)) (hts2 (.instanceMethod yX3_init) (by decide +kernel)) rfl (by decide +kernel) ⟨Nat.le_of_ble_eq_true rfl, Nat.le_of_ble_eq_true rfl⟩) hK hP hD hS hA [0] [] rfl rfl (by decide) (by decide) (by decide) rfl hl.1 rfl (Nat.le_of_ble_eq_true rfl) dL_law_4 ⟨Nat.le_of_ble_eq_true rfl, Nat.le_of_ble_eq_true rfl⟩ (fun u H locs hw hP hD hS => ?_)
  obtain ⟨r0, r1, r2, r3, r4, r5, r6, v0, v1, v2⟩ := u
  have hP : va_P (dC, dI) vwCl ((wK cA k0 r0 v0) ++ (wR cA r0 r1 r2 r3 r4 r5 r6 (fun _ => 0) 0 (fun _ => 0) (fun _ => 0) (fun _ => 0) (fun _ => 0) 0 (fun _ => 0) 0 (-1)) ++ (wW cA v0 v1 v2 (fun _ => 0) 0 (fun _ => 0) 0)) H := hP
  have hD : va_D (fun q : Nat => s.heap.size ≤ q) ((wK cA k0 r0 v0) ++ (wR cA r0 r1 r2 r3 r4 r5 r6 (fun _ => 0) 0 (fun _ => 0) (fun _ => 0) (fun _ => 0) (fun _ => 0) 0 (fun _ => 0) 0 (-1)) ++ (wW cA v0 v1 v2 (fun _ => 0) 0 (fun _ => 0) 0)) := hD
  refine W.widen (k := 11) (n := 904) (Nat.le_of_ble_eq_true rfl) (Nat.le_of_ble_eq_true rfl) ?_
  refine lv_astore_n (lv' := [(1, .ref k0), (0, .ref b)]) hx hb dL_law_7 rfl hl (by decide) rfl (fun ls hl => ?_)
  refine va_new (ci := 3) (fs := [.int 0, .null, .int 0, .int 0, .null, .null, .null, .null, .int 0, .int 0, .null, .int 0, .int 0, .int 0, .int 0, .int 0, .null, .null, .int 0, .null, .int 0, .int 0]) (C := RX4) (T := TX4) (N := 22) hx hb hts inX4 tyX4 tyX4_ok hown (hts2 (.classLink RL 10 RX4) (by decide +kernel)) (hts2 (.instantiable RX4 22) (by decide +kernel)) (hts2 (.initialized RX4) (by decide +kernel)) hK hP hD hS hA rfl (fun j hj => by rcases (show j = 0 ∨ j = 1 ∨ j = 2 ∨ j = 3 ∨ j = 4 ∨ j = 5 ∨ j = 6 ∨ j = 7 ∨ j = 8 ∨ j = 9 ∨ j = 10 ∨ j = 11 ∨ j = 12 ∨ j = 13 ∨ j = 14 ∨ j = 15 ∨ j = 16 ∨ j = 17 ∨ j = 18 ∨ j = 19 ∨ j = 20 ∨ j = 21 by omega) with rfl | rfl | rfl | rfl | rfl | rfl | rfl | rfl | rfl | rfl | rfl | rfl | rfl | rfl | rfl | rfl | rfl | rfl | rfl | rfl | rfl | rfl <;> rfl) (Nat.le_of_ble_eq_true rfl) (Nat.le_of_ble_eq_true rfl) dL_law_8 (fun m0 H hP hD hS => ?_)
  have hP : va_P (dC, dI) vwCl (((wK cA k0 r0 v0) ++ (wR cA r0 r1 r2 r3 r4 r5 r6 (fun _ => 0) 0 (fun _ => 0) (fun _ => 0) (fun _ => 0) (fun _ => 0) 0 (fun _ => 0) 0 (-1)) ++ (wW cA v0 v1 v2 (fun _ => 0) 0 (fun _ => 0) 0)) ++ [(m0, .inr (3, [.int 0, .null, .int 0, .int 0, .null, .null, .null, .null, .int 0, .int 0, .null, .int 0, .int 0, .int 0, .int 0, .int 0, .null, .null, .int 0, .null, .int 0, .int 0]))]) H := hP
  have hD : va_D (fun q : Nat => s.heap.size ≤ q) (((wK cA k0 r0 v0) ++ (wR cA r0 r1 r2 r3 r4 r5 r6 (fun _ => 0) 0 (fun _ => 0) (fun _ => 0) (fun _ => 0) (fun _ => 0) 0 (fun _ => 0) 0 (-1)) ++ (wW cA v0 v1 v2 (fun _ => 0) 0 (fun _ => 0) 0)) ++ [(m0, .inr (3, [.int 0, .null, .int 0, .int 0, .null, .null, .null, .null, .int 0, .int 0, .null, .int 0, .int 0, .int 0, .int 0, .int 0, .null, .null, .int 0, .null, .int 0, .int 0]))]) := hD
  refine W.widen (k := 12) (n := 926) (Nat.le_of_ble_eq_true rfl) (Nat.le_of_ble_eq_true rfl) ?_
  refine lv_dup hx hb dL_law_11 rfl ?_
  refine cl_I (As := []) (rest := [.ref m0]) (wr := (wK cA k0 r0 v0) ++ (wR cA r0 r1 r2 r3 r4 r5 r6 (fun _ => 0) 0 (fun _ => 0) (fun _ => 0) (fun _ => 0) (fun _ => 0) 0 (fun _ => 0) 0 (-1)) ++ (wW cA v0 v1 v2 (fun _ => 0) 0 (fun _ => 0) 0)) ⟨hx, hb, hml, hown, hts2⟩ (k_X4_init l dC dI cA m0 _) (cwI 0 hts2 gL_law_X4_init rfl rfl rfl (hts2 (.initialized RX4) (by decide +kernel)) (hts2 (.methodLink RL 12 yX4_init) (by decide +kernel)) (hts2 (.instanceMethod yX4_init) (by decide +kernel)) rfl (by decide +kernel) ⟨Nat.le_of_ble_eq_true rfl, Nat.le_of_ble_eq_true rfl⟩) hK hP hD hS hA [11] [0, 1, 2, 3, 4, 5, 6, 7, 8, 9, 10] rfl rfl (by decide) (by decide) (by decide) rfl hl.1 rfl (Nat.le_of_ble_eq_true rfl) dL_law_12 ⟨Nat.le_of_ble_eq_true rfl, Nat.le_of_ble_eq_true rfl⟩ (fun u H locs hw hP hD hS => ?_)
  obtain ⟨m1, m2, m3, m4, m5, m6, m7, m8, m9⟩ := u
  have hP : va_P (dC, dI) vwCl ((wK cA k0 r0 v0) ++ (wR cA r0 r1 r2 r3 r4 r5 r6 (fun _ => 0) 0 (fun _ => 0) (fun _ => 0) (fun _ => 0) (fun _ => 0) 0 (fun _ => 0) 0 (-1)) ++ (wW cA v0 v1 v2 (fun _ => 0) 0 (fun _ => 0) 0) ++ (wM cA m0 m1 m2 m3 m4 m5 m6 m7 m8 m9 0 (fun _ => 0) 0 0 (fun _ => 0) (fun _ => 0) (fun _ => 0) (fun _ => 0) 0 (-1) (fun _ => 0) 0 0 0 0 0 (fun _ => 0) (fun _ => 0) 0 (fun _ => 0) 0 0)) H := hP
  have hD : va_D (fun q : Nat => s.heap.size ≤ q) ((wK cA k0 r0 v0) ++ (wR cA r0 r1 r2 r3 r4 r5 r6 (fun _ => 0) 0 (fun _ => 0) (fun _ => 0) (fun _ => 0) (fun _ => 0) 0 (fun _ => 0) 0 (-1)) ++ (wW cA v0 v1 v2 (fun _ => 0) 0 (fun _ => 0) 0) ++ (wM cA m0 m1 m2 m3 m4 m5 m6 m7 m8 m9 0 (fun _ => 0) 0 0 (fun _ => 0) (fun _ => 0) (fun _ => 0) (fun _ => 0) 0 (-1) (fun _ => 0) 0 0 0 0 0 (fun _ => 0) (fun _ => 0) 0 (fun _ => 0) 0 0)) := hD
  refine W.widen (k := 21) (n := 2115) (Nat.le_of_ble_eq_true rfl) (Nat.le_of_ble_eq_true rfl) ?_
  refine lv_astore_n (lv' := [(2, .ref m0), (1, .ref k0), (0, .ref b)]) hx hb dL_law_15 rfl hl (by decide) rfl (fun ls hl => ?_)
  refine lv_iconst (v := nI 0) hx hb dL_law_16 (by decide) ?_
  refine lv_istore_n (lv' := [(3, .int (nI 0)), (2, .ref m0), (1, .ref k0), (0, .ref b)]) hx hb dL_law_17 rfl hl (by decide) rfl (fun ls hl => ?_)
  have hR0 : LR (fun _ => 0) 0 (fun _ => 0) (fun _ => 0) (fun _ => 0) (fun _ => 0) 0 (fun _ => 0) 0 (fun _ => 0) (fun _ => 0) (fun _ => 0) (fun _ => 0) 0 (fun _ => 0) := ⟨by omega, rfl, by omega, by omega, by omega, fun _ => (by show (0 : Nat) < _; decide), ⟨fun _ => (by show (0 : Nat) < _; decide), fun _ => (by show (0 : Nat) < _; decide), fun _ => (by show (0 : Nat) < _; decide), fun _ => (by show (0 : Nat) < _; decide)⟩, ⟨fun _ => (by show (0 : Nat) < _; decide), fun _ => (by show (0 : Nat) < _; decide), fun _ => (by show (0 : Nat) < _; decide), fun _ => (by show (0 : Nat) < _; decide)⟩, fun j hj => absurd hj (Nat.not_lt_zero j), fun j hj => absurd hj (Nat.not_lt_zero j)⟩
  have hW0 : LW (fun _ => 0) 0 (fun _ => 0) 0 (fun _ => 0) 0 := ⟨rfl, by omega, by omega, fun _ => (by show (0 : Nat) < _; decide), fun _ => (by show (0 : Nat) < _; decide), fun j hj => absurd hj (Nat.not_lt_zero j), fun j hj => absurd hj (Nat.not_lt_zero j), fun j hj => absurd hj (Nat.not_lt_zero _), fun h => absurd h (Nat.lt_irrefl 0)⟩
  exact law_loop hx hb hml hown hts2 hX hbl hbA hA hN hK hL hr hlocks (fun _ h => h) k0 r0 r1 r2 r3 r4 r5 r6 v0 v1 v2 m0 m1 m2 m3 m4 m5 m6 m7 m8 m9 (L + 1) 0 (by omega) (by omega) (fun _ => 0) 0 (fun _ => 0) (fun _ => 0) (fun _ => 0) (fun _ => 0) 0 (fun _ => 0) 0 (-1) (fun _ => 0) 0 (fun _ => 0) 0 0 0 (fun _ => 0) (fun _ => 0) (fun _ => 0) (fun _ => 0) 0 (fun _ => 0) 0 0 0 0 0 (fun _ => 0) (fun _ => 0) 0 _ _ _ hR0 hW0 (fun _ => (by show (0 : Nat) < _; decide)) hP hD hS (lv_sub hl [3, 2, 1, 0] rfl)
