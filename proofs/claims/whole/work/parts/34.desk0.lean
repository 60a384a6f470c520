abbrev vX3_init (cA : ClassId) (k0 : Nat) : Nat × Nat × Nat × Nat × Nat × Nat × Nat × Nat × Nat × Nat → va_W := fun u => match u with | (r0, r1, r2, r3, r4, r5, r6, v0, v1, v2) => (wK cA k0 r0 v0) ++ (wR cA r0 r1 r2 r3 r4 r5 r6 (fun _ => 0) 0 (fun _ => 0) (fun _ => 0) (fun _ => 0) (fun _ => 0) 0 (fun _ => 0) 0 (-1)) ++ (wW cA v0 v1 v2 (fun _ => 0) 0 (fun _ => 0) 0)
set_option maxHeartbeats 4000000 in
set_option maxRecDepth 100000 in
theorem k_X3_init (l : Launch) (dC : Nat → ClassId) (dI : Nat → Nat → Nat) (cA : ClassId) (k0 : Nat) (sz : Nat) : Met l yX3_init wsX3_init ({ frames := 2, cells := 10, slots := 902, locals := 32 } : Room) (va_Pc [.ref k0] (fun U => cPre dC dI cA ([(k0, .inr (2, [.null, .null]))]) sz U ∧ nestP U)) (va_Qv (fun _ => True : Nat × Nat × Nat × Nat × Nat × Nat × Nat × Nat × Nat × Nat → Prop) (fun u => cAft dC dI cA (va_A ([(k0, .inr (2, [.null, .null]))]) sz) (vX3_init cA k0 u)) (va_A ([(k0, .inr (2, [.null, .null]))]) sz)) 10 902 (va_A ([(k0, .inr (2, [.null, .null]))]) sz) := by
  refine Met.ofW (cc := cX3_init) (maxL := 1) (ret := none) (by decide) rfl ?_
  intro p e s m args below meth c s₁ B hml hv
  obtain ⟨rfl, ⟨hsz, hP, hK, hD0⟩, hN⟩ := hv
  have hx := B.exec
  have hb := B.bytes
  have hr := B.returns
  have hts := atoms_spec (ws := wsX3_init) B.pre
  have hown : s.vm.findClass RX3 = some m.cls := findClass_of_methodNamed B.named
  have hlocks := B.notSynchronized
  have hin : meth.name = "<init>" := (name_of_methodNamed B.named B.method).1
  subst hsz
  have hD := hD0.self (sz := s.heap.size)
  generalize hAe : va_A ([(k0, .inr (2, [.null, .null]))]) s.heap.size = A at hD ⊢
  have hA : ∀ q : Nat, s.heap.size ≤ q → A q := fun q h => by rw [← hAe]; exact Or.inr h
  have hS : va_S A s.heap s.heap [] := va_S.rf
  have hl := lv_entry ([.ref k0]) (n := 1) (Nat.le_of_ble_eq_true rfl)
  rw [lg_entry_eq]
  generalize (lg_sl ([.ref k0]) ++ List.replicate (1 - (lg_sl ([.ref k0])).length) Slot.unset).toArray = ls at hl ⊢
  have hl : lv_has ls 1 [(0, .ref k0)] := hl
  have hinX0 : ∀ w ∈ wsX00, w ∈ wsX3_init := fun _ h => List.mem_cons_of_mem _ (List.mem_append_left _ (List.mem_append_left _ (List.mem_append_right _ h)))
  have hinX3 : ∀ w ∈ wsX30, w ∈ wsX3_init := fun _ h => List.mem_cons_of_mem _ (List.mem_append_left _ (List.mem_append_right _ h))
  have hinX2 : ∀ w ∈ wsX20, w ∈ wsX3_init := fun _ h => List.mem_cons_of_mem _ (List.mem_append_right _ h)
  have hP : va_P (dC, dI) vwCl ([(k0, .inr (2, [.null, .null]))]) s.heap := hP
  have hf_10 := hts (.fieldLink RX3 10 "DerDesk" "reader" "LDerDesk$Reader;") (by decide +kernel)
  have hf_19 := hts (.fieldLink RX3 19 "DerDesk" "writer" "LDerDesk$Writer;") (by decide +kernel)
  refine lv_aload_n hx hb dX3_init_0 rfl (lv_at hl 0 rfl) ?_
  refine W.objInit hx hb hown (hts (.methodLink RX3 1 objectInit) (by decide +kernel)) (hts (.instanceMethod objectInit) (by decide +kernel)) (hts (.code objectInit ⟨#[0xb1]⟩ 1 none) (by decide +kernel)) rfl (by rw [hml]; exact hl.1) rfl dX3_init_1 (Nat.le_of_ble_eq_true rfl) (Nat.le_of_ble_eq_true rfl) ?_
  refine W.eq (g2 := F0 m 4 ls []) rfl ?_
  refine lv_aload_n hx hb dX3_init_4 rfl (lv_at hl 0 rfl) ?_
  refine va_new (ci := 0) (fs := [.null, .int 0, .null, .null, .null, .null, .int 0, .null, .int 0, .int 0]) (C := RX0) (T := TX0) (N := 10) hx hb hts hinX0 tyX0 tyX0_ok hown (hts (.classLink RX3 7 RX0) (by decide +kernel)) (hts (.instantiable RX0 10) (by decide +kernel)) (hts (.initialized RX0) (by decide +kernel)) hK hP hD hS hA rfl (fun j hj => by rcases (show j = 0 ∨ j = 1 ∨ j = 2 ∨ j = 3 ∨ j = 4 ∨ j = 5 ∨ j = 6 ∨ j = 7 ∨ j = 8 ∨ j = 9 by omega) with rfl | rfl | rfl | rfl | rfl | rfl | rfl | rfl | rfl | rfl <;> rfl) (Nat.le_of_ble_eq_true rfl) (Nat.le_of_ble_eq_true rfl) dX3_init_5 (fun r0 H hP hD hS => ?_)
  have hP : va_P (dC, dI) vwCl ([(k0, .inr (2, [.null, .null])), (r0, .inr (0, [.null, .int 0, .null, .null, .null, .null, .int 0, .null, .int 0, .int 0]))]) H := hP
  have hD : va_D A ([(k0, .inr (2, [.null, .null])), (r0, .inr (0, [.null, .int 0, .null, .null, .null, .null, .int 0, .null, .int 0, .int 0]))]) := hD
  refine W.widen (k := 1) (n := 10) (Nat.le_of_ble_eq_true rfl) (Nat.le_of_ble_eq_true rfl) ?_
  refine lv_dup hx hb dX3_init_8 rfl ?_
  refine cl_IN (As := []) (rest := [.ref r0, .ref k0]) (wr := [(k0, .inr (2, [.null, .null]))]) ⟨hx, hb, hml, hown, hts⟩ (k_X0_init l dC dI cA r0 _) ⟨va_cnB 0 hts gX3_init_X0_init_n9 rfl rfl rfl (hN (.methodLinkNest RX3 9 yX0_init "DerDesk") (by decide +kernel)) (hts (.initialized RX0) (by decide +kernel)) (by decide +kernel) ⟨Nat.le_of_ble_eq_true rfl, Nat.le_of_ble_eq_true rfl⟩, rfl, hts (.instanceMethod yX0_init) (by decide +kernel)⟩ hK hP hD hS hA [1] [0] rfl rfl (by decide) (by decide) (by decide) rfl hl.1 rfl (Nat.le_of_ble_eq_true rfl) dX3_init_9 ⟨Nat.le_of_ble_eq_true rfl, Nat.le_of_ble_eq_true rfl⟩ (fun u H locs hw hP hD hS => ?_)
  obtain ⟨r1, r2, r3, r4, r5, r6⟩ := u
  have hP : va_P (dC, dI) vwCl ([(k0, .inr (2, [.null, .null]))] ++ (wR cA r0 r1 r2 r3 r4 r5 r6 (fun _ => 0) 0 (fun _ => 0) (fun _ => 0) (fun _ => 0) (fun _ => 0) 0 (fun _ => 0) 0 (-1))) H := hP
  have hD : va_D A ([(k0, .inr (2, [.null, .null]))] ++ (wR cA r0 r1 r2 r3 r4 r5 r6 (fun _ => 0) 0 (fun _ => 0) (fun _ => 0) (fun _ => 0) (fun _ => 0) 0 (fun _ => 0) 0 (-1))) := hD
  refine W.widen (k := 7) (n := 582) (Nat.le_of_ble_eq_true rfl) (Nat.le_of_ble_eq_true rfl) ?_
  refine va_putF (D := (dC, dI)) (ci := 2) (v := .ref r0) (ty := .object "DerDesk$Reader") (C := RX3) (T := TX3) (N := 2) hx hb hts hinX3 tyX3 tyX3_ok nmX3 hown hK hP hD hS 0 rfl rfl 0 (by decide) hf_10 (fun _ h9 => h9) rfl hin rfl (by decide +kernel) rfl rfl (Nat.le_of_ble_eq_true rfl) dX3_init_12 (fun H locs hP hD hS => ?_)
  have hP : va_P (dC, dI) vwCl ([(k0, .inr (2, [.ref r0, .null]))] ++ (wR cA r0 r1 r2 r3 r4 r5 r6 (fun _ => 0) 0 (fun _ => 0) (fun _ => 0) (fun _ => 0) (fun _ => 0) 0 (fun _ => 0) 0 (-1))) H := hP
  have hD : va_D A ([(k0, .inr (2, [.ref r0, .null]))] ++ (wR cA r0 r1 r2 r3 r4 r5 r6 (fun _ => 0) 0 (fun _ => 0) (fun _ => 0) (fun _ => 0) (fun _ => 0) 0 (fun _ => 0) 0 (-1))) := hD
  refine lv_aload_n hx hb dX3_init_15 rfl (lv_at hl 0 rfl) ?_
  refine va_new (ci := 1) (fs := [.null, .int 0, .null, .int 0]) (C := RX2) (T := TX2) (N := 4) hx hb hts hinX2 tyX2 tyX2_ok hown (hts (.classLink RX3 16 RX2) (by decide +kernel)) (hts (.instantiable RX2 4) (by decide +kernel)) (hts (.initialized RX2) (by decide +kernel)) hK hP hD hS hA rfl (fun j hj => by rcases (show j = 0 ∨ j = 1 ∨ j = 2 ∨ j = 3 by omega) with rfl | rfl | rfl | rfl <;> rfl) (Nat.le_of_ble_eq_true rfl) (Nat.le_of_ble_eq_true rfl) dX3_init_16 (fun v0 H hP hD hS => ?_)
  have hP : va_P (dC, dI) vwCl (([(k0, .inr (2, [.ref r0, .null]))] ++ (wR cA r0 r1 r2 r3 r4 r5 r6 (fun _ => 0) 0 (fun _ => 0) (fun _ => 0) (fun _ => 0) (fun _ => 0) 0 (fun _ => 0) 0 (-1))) ++ [(v0, .inr (1, [.null, .int 0, .null, .int 0]))]) H := hP
  have hD : va_D A (([(k0, .inr (2, [.ref r0, .null]))] ++ (wR cA r0 r1 r2 r3 r4 r5 r6 (fun _ => 0) 0 (fun _ => 0) (fun _ => 0) (fun _ => 0) (fun _ => 0) 0 (fun _ => 0) 0 (-1))) ++ [(v0, .inr (1, [.null, .int 0, .null, .int 0]))]) := hD
  refine W.widen (k := 8) (n := 586) (Nat.le_of_ble_eq_true rfl) (Nat.le_of_ble_eq_true rfl) ?_
  refine lv_dup hx hb dX3_init_19 rfl ?_
  refine cl_IN (As := []) (rest := [.ref v0, .ref k0]) (wr := [(k0, .inr (2, [.ref r0, .null]))] ++ (wR cA r0 r1 r2 r3 r4 r5 r6 (fun _ => 0) 0 (fun _ => 0) (fun _ => 0) (fun _ => 0) (fun _ => 0) 0 (fun _ => 0) 0 (-1))) ⟨hx, hb, hml, hown, hts⟩ (k_X2_init l dC dI cA v0 _) ⟨va_cnB 0 hts gX3_init_X2_init_n18 rfl rfl rfl (hN (.methodLinkNest RX3 18 yX2_init "DerDesk") (by decide +kernel)) (hts (.initialized RX2) (by decide +kernel)) (by decide +kernel) ⟨Nat.le_of_ble_eq_true rfl, Nat.le_of_ble_eq_true rfl⟩, rfl, hts (.instanceMethod yX2_init) (by decide +kernel)⟩ hK hP hD hS hA [8] [0, 1, 2, 3, 4, 5, 6, 7] rfl rfl (by decide) (by decide) (by decide) rfl hl.1 rfl (Nat.le_of_ble_eq_true rfl) dX3_init_20 ⟨Nat.le_of_ble_eq_true rfl, Nat.le_of_ble_eq_true rfl⟩ (fun u H locs hw hP hD hS => ?_)
  obtain ⟨v1, v2⟩ := u
  have hP : va_P (dC, dI) vwCl (([(k0, .inr (2, [.ref r0, .null]))] ++ (wR cA r0 r1 r2 r3 r4 r5 r6 (fun _ => 0) 0 (fun _ => 0) (fun _ => 0) (fun _ => 0) (fun _ => 0) 0 (fun _ => 0) 0 (-1))) ++ (wW cA v0 v1 v2 (fun _ => 0) 0 (fun _ => 0) 0)) H := hP
  have hD : va_D A (([(k0, .inr (2, [.ref r0, .null]))] ++ (wR cA r0 r1 r2 r3 r4 r5 r6 (fun _ => 0) 0 (fun _ => 0) (fun _ => 0) (fun _ => 0) (fun _ => 0) 0 (fun _ => 0) 0 (-1))) ++ (wW cA v0 v1 v2 (fun _ => 0) 0 (fun _ => 0) 0)) := hD
  refine W.widen (k := 10) (n := 902) (Nat.le_of_ble_eq_true rfl) (Nat.le_of_ble_eq_true rfl) ?_
  refine va_putF (D := (dC, dI)) (ci := 2) (v := .ref v0) (ty := .object "DerDesk$Writer") (C := RX3) (T := TX3) (N := 2) hx hb hts hinX3 tyX3 tyX3_ok nmX3 hown hK hP hD hS 0 rfl rfl 1 (by decide) hf_19 (fun _ h9 => h9) rfl hin rfl (by decide +kernel) rfl rfl (Nat.le_of_ble_eq_true rfl) dX3_init_23 (fun H locs hP hD hS => ?_)
  have hP : va_P (dC, dI) vwCl (((wK cA k0 r0 v0) ++ (wR cA r0 r1 r2 r3 r4 r5 r6 (fun _ => 0) 0 (fun _ => 0) (fun _ => 0) (fun _ => 0) (fun _ => 0) 0 (fun _ => 0) 0 (-1))) ++ (wW cA v0 v1 v2 (fun _ => 0) 0 (fun _ => 0) 0)) H := hP
  have hD : va_D A (((wK cA k0 r0 v0) ++ (wR cA r0 r1 r2 r3 r4 r5 r6 (fun _ => 0) 0 (fun _ => 0) (fun _ => 0) (fun _ => 0) (fun _ => 0) 0 (fun _ => 0) 0 (-1))) ++ (wW cA v0 v1 v2 (fun _ => 0) 0 (fun _ => 0) 0)) := hD
  have hP9 : va_P (dC, dI) vwCl (vX3_init cA k0 (r0, r1, r2, r3, r4, r5, r6, v0, v1, v2)) _ := hP
  have hD9 : va_D A (vX3_init cA k0 (r0, r1, r2, r3, r4, r5, r6, v0, v1, v2)) := hD
  exact W.vret hx hb hr (fun t ht hW => ⟨⟨(r0, r1, r2, r3, r4, r5, r6, v0, v1, v2), rfl, trivial, by rw [ht]; exact hP9, va_K.moved hW.alike hK, hD9⟩, hS.F ht⟩) hS.2.2 dX3_init_26
