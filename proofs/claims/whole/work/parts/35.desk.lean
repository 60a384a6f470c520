abbrev pX3_feed (k0 : Nat) (r0 : Nat) (v0 : Nat) (r1 : Nat) (r2 : Nat) (r3 : Nat) (r4 : Nat) (r5 : Nat) (r6 : Nat) (row : Nat → Nat) (rs : Nat) (tg : Nat → Nat) (st : Nat → Nat) (ln : Nat → Nat) (pa : Nat → Int32) (nd : Nat) (ar : Nat → Nat) (lv : Nat) (of : Int32) (v1 : Nat) (v2 : Nat) (bt : Nat → Nat) (wz : Nat) (op : Nat → Nat) (dp : Nat) (b : Int32) : Int32 → (Nat → Nat) × Nat × Nat → Prop := fun (r : Int32) (u : (Nat → Nat) × Nat × Nat) => match u with | (row2, rs2, nd2) => (¬ isB b ∧ r = -1 ∧ row2 = row ∧ rs2 = rs ∧ nd2 = nd) ∨ (isB b ∧ rs = 300 ∧ r = -3 ∧ row2 = row ∧ rs2 = rs ∧ nd2 = nd) ∨ (isB b ∧ rs < 300 ∧ r = 0 ∧ row2 = va_up row rs b.toNatClampNeg ∧ rs2 = rs + 1 ∧ nd2 = 0)
abbrev vX3_feed (cA : ClassId) (k0 : Nat) (r0 : Nat) (v0 : Nat) (r1 : Nat) (r2 : Nat) (r3 : Nat) (r4 : Nat) (r5 : Nat) (r6 : Nat) (row : Nat → Nat) (rs : Nat) (tg : Nat → Nat) (st : Nat → Nat) (ln : Nat → Nat) (pa : Nat → Int32) (nd : Nat) (ar : Nat → Nat) (lv : Nat) (of : Int32) (v1 : Nat) (v2 : Nat) (bt : Nat → Nat) (wz : Nat) (op : Nat → Nat) (dp : Nat) (b : Int32) : (Nat → Nat) × Nat × Nat → va_W := fun (u : (Nat → Nat) × Nat × Nat) => match u with | (row2, rs2, nd2) => (wK cA k0 r0 v0) ++ (wR cA r0 r1 r2 r3 r4 r5 r6 row2 rs2 tg st ln pa nd2 ar lv of) ++ (wW cA v0 v1 v2 bt wz op dp)
abbrev qX3_feed (dC : Nat → ClassId) (dI : Nat → Nat → Nat) (cA : ClassId) (A : Nat → Prop) (k0 : Nat) (r0 : Nat) (v0 : Nat) (r1 : Nat) (r2 : Nat) (r3 : Nat) (r4 : Nat) (r5 : Nat) (r6 : Nat) (row : Nat → Nat) (rs : Nat) (tg : Nat → Nat) (st : Nat → Nat) (ln : Nat → Nat) (pa : Nat → Int32) (nd : Nat) (ar : Nat → Nat) (lv : Nat) (of : Int32) (v1 : Nat) (v2 : Nat) (bt : Nat → Nat) (wz : Nat) (op : Nat → Nat) (dp : Nat) (b : Int32) : Array Value → State → Outcome → State → Prop := va_Qi (pX3_feed k0 r0 v0 r1 r2 r3 r4 r5 r6 row rs tg st ln pa nd ar lv of v1 v2 bt wz op dp b) (fun u => cAft dC dI cA A (vX3_feed cA k0 r0 v0 r1 r2 r3 r4 r5 r6 row rs tg st ln pa nd ar lv of v1 v2 bt wz op dp b u)) A
set_option maxHeartbeats 4000000 in
set_option maxRecDepth 100000 in
theorem k_X3_feed (l : Launch) (dC : Nat → ClassId) (dI : Nat → Nat → Nat) (cA : ClassId) (k0 : Nat) (r0 : Nat) (v0 : Nat) (r1 : Nat) (r2 : Nat) (r3 : Nat) (r4 : Nat) (r5 : Nat) (r6 : Nat) (row : Nat → Nat) (rs : Nat) (tg : Nat → Nat) (st : Nat → Nat) (ln : Nat → Nat) (pa : Nat → Int32) (nd : Nat) (ar : Nat → Nat) (lv : Nat) (of : Int32) (v1 : Nat) (v2 : Nat) (bt : Nat → Nat) (wz : Nat) (op : Nat → Nat) (dp : Nat) (b : Int32) (sz : Nat) (hrs : rs ≤ 300) : Met l yX3_feed wsX3_feed ({ frames := 2, cells := 0, slots := 0, locals := 41 } : Room) (va_Pc [.ref k0, .int b] (fun U => cPre dC dI cA ((wK cA k0 r0 v0) ++ (wR cA r0 r1 r2 r3 r4 r5 r6 row rs tg st ln pa nd ar lv of) ++ (wW cA v0 v1 v2 bt wz op dp)) sz U ∧ nestP U)) (qX3_feed dC dI cA (va_A ((wK cA k0 r0 v0) ++ (wR cA r0 r1 r2 r3 r4 r5 r6 row rs tg st ln pa nd ar lv of) ++ (wW cA v0 v1 v2 bt wz op dp)) sz) k0 r0 v0 r1 r2 r3 r4 r5 r6 row rs tg st ln pa nd ar lv of v1 v2 bt wz op dp b) 0 0 (va_A ((wK cA k0 r0 v0) ++ (wR cA r0 r1 r2 r3 r4 r5 r6 row rs tg st ln pa nd ar lv of) ++ (wW cA v0 v1 v2 bt wz op dp)) sz) := by
  refine Met.ofW (cc := cX3_feed) (maxL := 2) (ret := (some .int)) (by decide) rfl ?_
  intro p e s m args below meth c s₁ B hml hv
  obtain ⟨rfl, ⟨hsz, hP, hK, hD0⟩, hN⟩ := hv
  have hx := B.exec
  have hb := B.bytes
  have hr := B.returns
  have hts := atoms_spec (ws := wsX3_feed) B.pre
  have hown : s.vm.findClass RX3 = some m.cls := findClass_of_methodNamed B.named
  have hlocks := B.notSynchronized
  subst hsz
  have hD := hD0.self (sz := s.heap.size)
  generalize hAe : va_A ((wK cA k0 r0 v0) ++ (wR cA r0 r1 r2 r3 r4 r5 r6 row rs tg st ln pa nd ar lv of) ++ (wW cA v0 v1 v2 bt wz op dp)) s.heap.size = A at hD ⊢
  have hA : ∀ q : Nat, s.heap.size ≤ q → A q := fun q h => by rw [← hAe]; exact Or.inr h
  have hS : va_S A s.heap s.heap [] := va_S.rf
  have hl := lv_entry ([.ref k0, .int b]) (n := 2) (Nat.le_of_ble_eq_true rfl)
  rw [lg_entry_eq]
  generalize (lg_sl ([.ref k0, .int b]) ++ List.replicate (2 - (lg_sl ([.ref k0, .int b])).length) Slot.unset).toArray = ls at hl ⊢
  have hl : lv_has ls 2 [(0, .ref k0), (1, .int b)] := hl
  have hinX3 : ∀ w ∈ wsX30, w ∈ wsX3_feed := fun _ h => List.mem_cons_of_mem _ (List.mem_append_left _ (List.mem_append_right _ h))
  have hinX0 : ∀ w ∈ wsX00, w ∈ wsX3_feed := fun _ h => List.mem_cons_of_mem _ (List.mem_append_right _ h)
  have hf_10 := hts (.fieldLink RX3 10 "DerDesk" "reader" "LDerDesk$Reader;") (by decide +kernel)
  have hP : va_P (dC, dI) vwCl ((wK cA k0 r0 v0) ++ (wR cA r0 r1 r2 r3 r4 r5 r6 row rs tg st ln pa nd ar lv of) ++ (wW cA v0 v1 v2 bt wz op dp)) s.heap := hP
  refine lv_aload_n hx hb dX3_feed_0 rfl (lv_at hl 0 rfl) ?_
  refine va_get (D := (dC, dI)) (ci := 2) (v := .ref r0) (C := RX3) (T := TX3) (N := 2) hx hb hts hinX3 hown hK hP 0 rfl rfl 0 (by decide) hf_10 (fun _ h9 => h9) rfl dX3_feed_1 ?_
  refine lv_iload_n hx hb dX3_feed_4 rfl (lv_at hl 1 rfl) ?_
  refine cl_Vi (As := [.int b]) (rest := []) (wr := [(k0, .inr (2, [.ref r0, .ref v0])), (v0, .inr (1, [.ref v1, .int (nI wz), .ref v2, .int (nI dp)])), (v1, .inl (cA, 300, .inl (nA bt))), (v2, .inl (cA, 16, .inl (nA op)))]) ⟨hx, hb, hml, hown, hts⟩ (k_X0_addByte l dC dI cA r0 r1 r2 r3 r4 r5 r6 row rs tg st ln pa nd ar lv of b _ hrs) (cwV 1 hts gX3_feed_X0_addByte rfl rfl rfl (by decide +kernel) ⟨Nat.le_of_ble_eq_true rfl, Nat.le_of_ble_eq_true rfl⟩) hK hP hD hS hA [1, 2, 3, 4, 5, 6, 7] [0, 8, 9, 10] rfl rfl (by decide) (by decide) (by decide) (ci := 0) (q0 := 0) rfl rfl rfl rfl hl.1 rfl (Nat.le_of_ble_eq_true rfl) dX3_feed_5 ⟨Nat.le_of_ble_eq_true rfl, Nat.le_of_ble_eq_true rfl⟩ (fun r_1 u_1 H locs hw_1 hP hD hS => ?_)
  obtain ⟨row2_1, rs2_1, nd2_1⟩ := u_1
  have hP : va_P (dC, dI) vwCl ((wK cA k0 r0 v0) ++ (wR cA r0 r1 r2 r3 r4 r5 r6 row2_1 rs2_1 tg st ln pa nd2_1 ar lv of) ++ (wW cA v0 v1 v2 bt wz op dp)) H := hP.sub [0, 4, 5, 6, 7, 8, 9, 10, 1, 2, 3] rfl
  have hD : va_D A ((wK cA k0 r0 v0) ++ (wR cA r0 r1 r2 r3 r4 r5 r6 row2_1 rs2_1 tg st ln pa nd2_1 ar lv of) ++ (wW cA v0 v1 v2 bt wz op dp)) := hD.sub [0, 4, 5, 6, 7, 8, 9, 10, 1, 2, 3] (by decide) rfl
  have hw_1 : (¬ isB b ∧ r_1 = -1 ∧ row2_1 = row ∧ rs2_1 = rs ∧ nd2_1 = nd) ∨ (isB b ∧ rs = 300 ∧ r_1 = -3 ∧ row2_1 = row ∧ rs2_1 = rs ∧ nd2_1 = nd) ∨ (isB b ∧ rs < 300 ∧ r_1 = 0 ∧ row2_1 = va_up row rs b.toNatClampNeg ∧ rs2_1 = rs + 1 ∧ nd2_1 = 0) := hw_1
  have hP9 : va_P (dC, dI) vwCl (vX3_feed cA k0 r0 v0 r1 r2 r3 r4 r5 r6 row rs tg st ln pa nd ar lv of v1 v2 bt wz op dp b (row2_1, rs2_1, nd2_1)) _ := hP
  have hD9 : va_D A (vX3_feed cA k0 r0 v0 r1 r2 r3 r4 r5 r6 row rs tg st ln pa nd ar lv of v1 v2 bt wz op dp b (row2_1, rs2_1, nd2_1)) := hD
  have hq9 : pX3_feed k0 r0 v0 r1 r2 r3 r4 r5 r6 row rs tg st ln pa nd ar lv of v1 v2 bt wz op dp b (r_1) (row2_1, rs2_1, nd2_1) := hw_1
  exact W.iret (v := r_1) hx hb hr (fun t ht hW => ⟨⟨r_1, (row2_1, rs2_1, nd2_1), rfl, hq9, by rw [ht]; exact hP9, va_K.moved hW.alike hK, hD9⟩, hS.F ht⟩) hS.2.2 dX3_feed_8
abbrev pX3_parse (k0 : Nat) (r0 : Nat) (v0 : Nat) (r1 : Nat) (r2 : Nat) (r3 : Nat) (r4 : Nat) (r5 : Nat) (r6 : Nat) (row : Nat → Nat) (rs : Nat) (tg : Nat → Nat) (st : Nat → Nat) (ln : Nat → Nat) (pa : Nat → Int32) (nd : Nat) (ar : Nat → Nat) (lv : Nat) (of : Int32) (v1 : Nat) (v2 : Nat) (bt : Nat → Nat) (wz : Nat) (op : Nat → Nat) (dp : Nat) : Int32 → Int32 × Nat × Nat × (Nat → Nat) × (Nat → Nat) × (Nat → Nat) × (Nat → Nat) × (Nat → Int32) × Nat → Prop := fun (r : Int32) (u : Int32 × Nat × Nat × (Nat → Nat) × (Nat → Nat) × (Nat → Nat) × (Nat → Nat) × (Nat → Int32) × Nat) => match u with | (of2, nd2, lv2, tg2, st2, ln2, ar2, pa2, pl2) => ((runS row rs 65 (0, 0, 0, tg, st, ln, ar, pa) = .inr (pl2, nd2, lv2, tg2, st2, ln2, ar2, pa2) ∧ r = nI 0 ∧ of2 = -1 ∧ PInv rs pl2 nd2 lv2 tg2 st2 ln2 ar2 ∧ 0 < nd2) ∨ (runS row rs 65 (0, 0, 0, tg, st, ln, ar, pa) = .inl (r, of2) ∧ r ≠ 0 ∧ nd2 = 0)) ∧ (∀ j, tg2 j < 256) ∧ (∀ j, st2 j < 1000) ∧ (∀ j, ln2 j < 65536) ∧ (∀ j, ar2 j < 64) ∧ nd2 ≤ 64 ∧ lv2 ≤ 16
abbrev vX3_parse (cA : ClassId) (k0 : Nat) (r0 : Nat) (v0 : Nat) (r1 : Nat) (r2 : Nat) (r3 : Nat) (r4 : Nat) (r5 : Nat) (r6 : Nat) (row : Nat → Nat) (rs : Nat) (tg : Nat → Nat) (st : Nat → Nat) (ln : Nat → Nat) (pa : Nat → Int32) (nd : Nat) (ar : Nat → Nat) (lv : Nat) (of : Int32) (v1 : Nat) (v2 : Nat) (bt : Nat → Nat) (wz : Nat) (op : Nat → Nat) (dp : Nat) : Int32 × Nat × Nat × (Nat → Nat) × (Nat → Nat) × (Nat → Nat) × (Nat → Nat) × (Nat → Int32) × Nat → va_W := fun (u : Int32 × Nat × Nat × (Nat → Nat) × (Nat → Nat) × (Nat → Nat) × (Nat → Nat) × (Nat → Int32) × Nat) => match u with | (of2, nd2, lv2, tg2, st2, ln2, ar2, pa2, pl2) => (wK cA k0 r0 v0) ++ (wR cA r0 r1 r2 r3 r4 r5 r6 row rs tg2 st2 ln2 pa2 nd2 ar2 lv2 of2) ++ (wW cA v0 v1 v2 bt wz op dp)
abbrev qX3_parse (dC : Nat → ClassId) (dI : Nat → Nat → Nat) (cA : ClassId) (A : Nat → Prop) (k0 : Nat) (r0 : Nat) (v0 : Nat) (r1 : Nat) (r2 : Nat) (r3 : Nat) (r4 : Nat) (r5 : Nat) (r6 : Nat) (row : Nat → Nat) (rs : Nat) (tg : Nat → Nat) (st : Nat → Nat) (ln : Nat → Nat) (pa : Nat → Int32) (nd : Nat) (ar : Nat → Nat) (lv : Nat) (of : Int32) (v1 : Nat) (v2 : Nat) (bt : Nat → Nat) (wz : Nat) (op : Nat → Nat) (dp : Nat) : Array Value → State → Outcome → State → Prop := va_Qi (pX3_parse k0 r0 v0 r1 r2 r3 r4 r5 r6 row rs tg st ln pa nd ar lv of v1 v2 bt wz op dp) (fun u => cAft dC dI cA A (vX3_parse cA k0 r0 v0 r1 r2 r3 r4 r5 r6 row rs tg st ln pa nd ar lv of v1 v2 bt wz op dp u)) A
set_option maxHeartbeats 4000000 in
set_option maxRecDepth 100000 in
theorem k_X3_parse (l : Launch) (dC : Nat → ClassId) (dI : Nat → Nat → Nat) (cA : ClassId) (k0 : Nat) (r0 : Nat) (v0 : Nat) (r1 : Nat) (r2 : Nat) (r3 : Nat) (r4 : Nat) (r5 : Nat) (r6 : Nat) (row : Nat → Nat) (rs : Nat) (tg : Nat → Nat) (st : Nat → Nat) (ln : Nat → Nat) (pa : Nat → Int32) (nd : Nat) (ar : Nat → Nat) (lv : Nat) (of : Int32) (v1 : Nat) (v2 : Nat) (bt : Nat → Nat) (wz : Nat) (op : Nat → Nat) (dp : Nat) (sz : Nat) (hrow : ∀ j, row j < 256) (htg : ∀ j, tg j < 256) (hst : ∀ j, st j < 1000) (hln : ∀ j, ln j < 65536) (har : ∀ j, ar j < 64) (hrs : rs ≤ 300) : Met l yX3_parse wsX3_parse ({ frames := 6, cells := 0, slots := 0, locals := 136 } : Room) (va_Pc [.ref k0] (fun U => cPre dC dI cA ((wK cA k0 r0 v0) ++ (wR cA r0 r1 r2 r3 r4 r5 r6 row rs tg st ln pa nd ar lv of) ++ (wW cA v0 v1 v2 bt wz op dp)) sz U ∧ nestP U)) (qX3_parse dC dI cA (va_A ((wK cA k0 r0 v0) ++ (wR cA r0 r1 r2 r3 r4 r5 r6 row rs tg st ln pa nd ar lv of) ++ (wW cA v0 v1 v2 bt wz op dp)) sz) k0 r0 v0 r1 r2 r3 r4 r5 r6 row rs tg st ln pa nd ar lv of v1 v2 bt wz op dp) 0 0 (va_A ((wK cA k0 r0 v0) ++ (wR cA r0 r1 r2 r3 r4 r5 r6 row rs tg st ln pa nd ar lv of) ++ (wW cA v0 v1 v2 bt wz op dp)) sz) := by
  refine Met.ofW (cc := cX3_parse) (maxL := 1) (ret := (some .int)) (by decide) rfl ?_
  intro p e s m args below meth c s₁ B hml hv
  obtain ⟨rfl, ⟨hsz, hP, hK, hD0⟩, hN⟩ := hv
  have hx := B.exec
  have hb := B.bytes
  have hr := B.returns
  have hts := atoms_spec (ws := wsX3_parse) B.pre
  have hown : s.vm.findClass RX3 = some m.cls := findClass_of_methodNamed B.named
  have hlocks := B.notSynchronized
  subst hsz
  have hD := hD0.self (sz := s.heap.size)
  generalize hAe : va_A ((wK cA k0 r0 v0) ++ (wR cA r0 r1 r2 r3 r4 r5 r6 row rs tg st ln pa nd ar lv of) ++ (wW cA v0 v1 v2 bt wz op dp)) s.heap.size = A at hD ⊢
  have hA : ∀ q : Nat, s.heap.size ≤ q → A q := fun q h => by rw [← hAe]; exact Or.inr h
  have hS : va_S A s.heap s.heap [] := va_S.rf
  have hl := lv_entry ([.ref k0]) (n := 1) (Nat.le_of_ble_eq_true rfl)
  rw [lg_entry_eq]
  generalize (lg_sl ([.ref k0]) ++ List.replicate (1 - (lg_sl ([.ref k0])).length) Slot.unset).toArray = ls at hl ⊢
  have hl : lv_has ls 1 [(0, .ref k0)] := hl
  have hinX3 : ∀ w ∈ wsX30, w ∈ wsX3_parse := fun _ h => List.mem_cons_of_mem _ (List.mem_append_left _ (List.mem_append_right _ h))
  have hinX0 : ∀ w ∈ wsX00, w ∈ wsX3_parse := fun _ h => List.mem_cons_of_mem _ (List.mem_append_right _ h)
  have hf_10 := hts (.fieldLink RX3 10 "DerDesk" "reader" "LDerDesk$Reader;") (by decide +kernel)
  have hP : va_P (dC, dI) vwCl ((wK cA k0 r0 v0) ++ (wR cA r0 r1 r2 r3 r4 r5 r6 row rs tg st ln pa nd ar lv of) ++ (wW cA v0 v1 v2 bt wz op dp)) s.heap := hP
  refine lv_aload_n hx hb dX3_parse_0 rfl (lv_at hl 0 rfl) ?_
  refine va_get (D := (dC, dI)) (ci := 2) (v := .ref r0) (C := RX3) (T := TX3) (N := 2) hx hb hts hinX3 hown hK hP 0 rfl rfl 0 (by decide) hf_10 (fun _ h9 => h9) rfl dX3_parse_1 ?_
  refine cl_Vi (As := []) (rest := []) (wr := [(k0, .inr (2, [.ref r0, .ref v0])), (v0, .inr (1, [.ref v1, .int (nI wz), .ref v2, .int (nI dp)])), (v1, .inl (cA, 300, .inl (nA bt))), (v2, .inl (cA, 16, .inl (nA op)))]) ⟨hx, hb, hml, hown, hts⟩ (k_X0_readRow l dC dI cA r0 r1 r2 r3 r4 r5 r6 row rs tg st ln pa nd ar lv of _ hrow htg hst hln har hrs) (cwV 0 hts gX3_parse_X0_readRow rfl rfl rfl (by decide +kernel) ⟨Nat.le_of_ble_eq_true rfl, Nat.le_of_ble_eq_true rfl⟩) hK hP hD hS hA [1, 2, 3, 4, 5, 6, 7] [0, 8, 9, 10] rfl rfl (by decide) (by decide) (by decide) (ci := 0) (q0 := 0) rfl rfl rfl rfl hl.1 rfl (Nat.le_of_ble_eq_true rfl) dX3_parse_4 ⟨Nat.le_of_ble_eq_true rfl, Nat.le_of_ble_eq_true rfl⟩ (fun r_1 u_1 H locs hw_1 hP hD hS => ?_)
  obtain ⟨of2_1, nd2_1, lv2_1, tg2_1, st2_1, ln2_1, ar2_1, pa2_1, pl2_1⟩ := u_1
  have hP : va_P (dC, dI) vwCl ((wK cA k0 r0 v0) ++ (wR cA r0 r1 r2 r3 r4 r5 r6 row rs tg2_1 st2_1 ln2_1 pa2_1 nd2_1 ar2_1 lv2_1 of2_1) ++ (wW cA v0 v1 v2 bt wz op dp)) H := hP.sub [0, 4, 5, 6, 7, 8, 9, 10, 1, 2, 3] rfl
  have hD : va_D A ((wK cA k0 r0 v0) ++ (wR cA r0 r1 r2 r3 r4 r5 r6 row rs tg2_1 st2_1 ln2_1 pa2_1 nd2_1 ar2_1 lv2_1 of2_1) ++ (wW cA v0 v1 v2 bt wz op dp)) := hD.sub [0, 4, 5, 6, 7, 8, 9, 10, 1, 2, 3] (by decide) rfl
  have hw_1 : ((runS row rs 65 (0, 0, 0, tg, st, ln, ar, pa) = .inr (pl2_1, nd2_1, lv2_1, tg2_1, st2_1, ln2_1, ar2_1, pa2_1) ∧ r_1 = nI 0 ∧ of2_1 = -1 ∧ PInv rs pl2_1 nd2_1 lv2_1 tg2_1 st2_1 ln2_1 ar2_1 ∧ 0 < nd2_1) ∨ (runS row rs 65 (0, 0, 0, tg, st, ln, ar, pa) = .inl (r_1, of2_1) ∧ r_1 ≠ 0 ∧ nd2_1 = 0)) ∧ (∀ j, tg2_1 j < 256) ∧ (∀ j, st2_1 j < 1000) ∧ (∀ j, ln2_1 j < 65536) ∧ (∀ j, ar2_1 j < 64) ∧ nd2_1 ≤ 64 ∧ lv2_1 ≤ 16 := hw_1
  have hP9 : va_P (dC, dI) vwCl (vX3_parse cA k0 r0 v0 r1 r2 r3 r4 r5 r6 row rs tg st ln pa nd ar lv of v1 v2 bt wz op dp (of2_1, nd2_1, lv2_1, tg2_1, st2_1, ln2_1, ar2_1, pa2_1, pl2_1)) _ := hP
  have hD9 : va_D A (vX3_parse cA k0 r0 v0 r1 r2 r3 r4 r5 r6 row rs tg st ln pa nd ar lv of v1 v2 bt wz op dp (of2_1, nd2_1, lv2_1, tg2_1, st2_1, ln2_1, ar2_1, pa2_1, pl2_1)) := hD
  have hq9 : pX3_parse k0 r0 v0 r1 r2 r3 r4 r5 r6 row rs tg st ln pa nd ar lv of v1 v2 bt wz op dp (r_1) (of2_1, nd2_1, lv2_1, tg2_1, st2_1, ln2_1, ar2_1, pa2_1, pl2_1) := hw_1
  exact W.iret (v := r_1) hx hb hr (fun t ht hW => ⟨⟨r_1, (of2_1, nd2_1, lv2_1, tg2_1, st2_1, ln2_1, ar2_1, pa2_1, pl2_1), rfl, hq9, by rw [ht]; exact hP9, va_K.moved hW.alike hK, hD9⟩, hS.F ht⟩) hS.2.2 dX3_parse_7
abbrev pX3_tagOf (k0 : Nat) (r0 : Nat) (v0 : Nat) (r1 : Nat) (r2 : Nat) (r3 : Nat) (r4 : Nat) (r5 : Nat) (r6 : Nat) (row : Nat → Nat) (rs : Nat) (tg : Nat → Nat) (st : Nat → Nat) (ln : Nat → Nat) (pa : Nat → Int32) (nd : Nat) (ar : Nat → Nat) (lv : Nat) (of : Int32) (v1 : Nat) (v2 : Nat) (bt : Nat → Nat) (wz : Nat) (op : Nat → Nat) (dp : Nat) (node : Int32) : Int32 → Unit → Prop := fun (r : Int32) (u : Unit) => r = if isNd nd node then nI (tg node.toNatClampNeg) else -1
abbrev vX3_tagOf (cA : ClassId) (k0 : Nat) (r0 : Nat) (v0 : Nat) (r1 : Nat) (r2 : Nat) (r3 : Nat) (r4 : Nat) (r5 : Nat) (r6 : Nat) (row : Nat → Nat) (rs : Nat) (tg : Nat → Nat) (st : Nat → Nat) (ln : Nat → Nat) (pa : Nat → Int32) (nd : Nat) (ar : Nat → Nat) (lv : Nat) (of : Int32) (v1 : Nat) (v2 : Nat) (bt : Nat → Nat) (wz : Nat) (op : Nat → Nat) (dp : Nat) (node : Int32) : Unit → va_W := fun (u : Unit) => (wK cA k0 r0 v0) ++ (wR cA r0 r1 r2 r3 r4 r5 r6 row rs tg st ln pa nd ar lv of) ++ (wW cA v0 v1 v2 bt wz op dp)
abbrev qX3_tagOf (dC : Nat → ClassId) (dI : Nat → Nat → Nat) (cA : ClassId) (A : Nat → Prop) (k0 : Nat) (r0 : Nat) (v0 : Nat) (r1 : Nat) (r2 : Nat) (r3 : Nat) (r4 : Nat) (r5 : Nat) (r6 : Nat) (row : Nat → Nat) (rs : Nat) (tg : Nat → Nat) (st : Nat → Nat) (ln : Nat → Nat) (pa : Nat → Int32) (nd : Nat) (ar : Nat → Nat) (lv : Nat) (of : Int32) (v1 : Nat) (v2 : Nat) (bt : Nat → Nat) (wz : Nat) (op : Nat → Nat) (dp : Nat) (node : Int32) : Array Value → State → Outcome → State → Prop := va_Qi (pX3_tagOf k0 r0 v0 r1 r2 r3 r4 r5 r6 row rs tg st ln pa nd ar lv of v1 v2 bt wz op dp node) (fun u => cAft dC dI cA A (vX3_tagOf cA k0 r0 v0 r1 r2 r3 r4 r5 r6 row rs tg st ln pa nd ar lv of v1 v2 bt wz op dp node u)) A
set_option maxHeartbeats 4000000 in
set_option maxRecDepth 100000 in
theorem k_X3_tagOf (l : Launch) (dC : Nat → ClassId) (dI : Nat → Nat → Nat) (cA : ClassId) (k0 : Nat) (r0 : Nat) (v0 : Nat) (r1 : Nat) (r2 : Nat) (r3 : Nat) (r4 : Nat) (r5 : Nat) (r6 : Nat) (row : Nat → Nat) (rs : Nat) (tg : Nat → Nat) (st : Nat → Nat) (ln : Nat → Nat) (pa : Nat → Int32) (nd : Nat) (ar : Nat → Nat) (lv : Nat) (of : Int32) (v1 : Nat) (v2 : Nat) (bt : Nat → Nat) (wz : Nat) (op : Nat → Nat) (dp : Nat) (node : Int32) (sz : Nat) (hnd : nd ≤ 64) : Met l yX3_tagOf wsX3_tagOf ({ frames := 2, cells := 0, slots := 0, locals := 43 } : Room) (va_Pc [.ref k0, .int node] (fun U => cPre dC dI cA ((wK cA k0 r0 v0) ++ (wR cA r0 r1 r2 r3 r4 r5 r6 row rs tg st ln pa nd ar lv of) ++ (wW cA v0 v1 v2 bt wz op dp)) sz U ∧ nestP U)) (qX3_tagOf dC dI cA (va_A ((wK cA k0 r0 v0) ++ (wR cA r0 r1 r2 r3 r4 r5 r6 row rs tg st ln pa nd ar lv of) ++ (wW cA v0 v1 v2 bt wz op dp)) sz) k0 r0 v0 r1 r2 r3 r4 r5 r6 row rs tg st ln pa nd ar lv of v1 v2 bt wz op dp node) 0 0 (va_A ((wK cA k0 r0 v0) ++ (wR cA r0 r1 r2 r3 r4 r5 r6 row rs tg st ln pa nd ar lv of) ++ (wW cA v0 v1 v2 bt wz op dp)) sz) := by
  refine Met.ofW (cc := cX3_tagOf) (maxL := 2) (ret := (some .int)) (by decide) rfl ?_
  intro p e s m args below meth c s₁ B hml hv
  obtain ⟨rfl, ⟨hsz, hP, hK, hD0⟩, hN⟩ := hv
  have hx := B.exec
  have hb := B.bytes
  have hr := B.returns
  have hts := atoms_spec (ws := wsX3_tagOf) B.pre
  have hown : s.vm.findClass RX3 = some m.cls := findClass_of_methodNamed B.named
  have hlocks := B.notSynchronized
  subst hsz
  have hD := hD0.self (sz := s.heap.size)
  generalize hAe : va_A ((wK cA k0 r0 v0) ++ (wR cA r0 r1 r2 r3 r4 r5 r6 row rs tg st ln pa nd ar lv of) ++ (wW cA v0 v1 v2 bt wz op dp)) s.heap.size = A at hD ⊢
  have hA : ∀ q : Nat, s.heap.size ≤ q → A q := fun q h => by rw [← hAe]; exact Or.inr h
  have hS : va_S A s.heap s.heap [] := va_S.rf
  have hl := lv_entry ([.ref k0, .int node]) (n := 2) (Nat.le_of_ble_eq_true rfl)
  rw [lg_entry_eq]
  generalize (lg_sl ([.ref k0, .int node]) ++ List.replicate (2 - (lg_sl ([.ref k0, .int node])).length) Slot.unset).toArray = ls at hl ⊢
  have hl : lv_has ls 2 [(0, .ref k0), (1, .int node)] := hl
  have hinX3 : ∀ w ∈ wsX30, w ∈ wsX3_tagOf := fun _ h => List.mem_cons_of_mem _ (List.mem_append_left _ (List.mem_append_right _ h))
  have hinX0 : ∀ w ∈ wsX00, w ∈ wsX3_tagOf := fun _ h => List.mem_cons_of_mem _ (List.mem_append_right _ h)
  have hf_10 := hts (.fieldLink RX3 10 "DerDesk" "reader" "LDerDesk$Reader;") (by decide +kernel)
  have hf_38 : (Cond.fieldLinkNest RX3 38 "DerDesk$Reader" "tags" "[I" "DerDesk").before ([.ref k0, .int node] : List Value).toArray s = true := va_Nw.use rfl (hN _ (by decide +kernel))
  have hP : va_P (dC, dI) vwCl ((wK cA k0 r0 v0) ++ (wR cA r0 r1 r2 r3 r4 r5 r6 row rs tg st ln pa nd ar lv of) ++ (wW cA v0 v1 v2 bt wz op dp)) s.heap := hP
  refine lv_aload_n hx hb dX3_tagOf_0 rfl (lv_at hl 0 rfl) ?_
  refine va_get (D := (dC, dI)) (ci := 2) (v := .ref r0) (C := RX3) (T := TX3) (N := 2) hx hb hts hinX3 hown hK hP 0 rfl rfl 0 (by decide) hf_10 (fun _ h9 => h9) rfl dX3_tagOf_1 ?_
  refine lv_aload_n hx hb dX3_tagOf_4 rfl (lv_at hl 0 rfl) ?_
  refine va_get (D := (dC, dI)) (ci := 2) (v := .ref r0) (C := RX3) (T := TX3) (N := 2) hx hb hts hinX3 hown hK hP 0 rfl rfl 0 (by decide) hf_10 (fun _ h9 => h9) rfl dX3_tagOf_5 ?_
  refine va_getN (D := (dC, dI)) (ci := 0) (v := .ref r2) (C := RX0) (T := TX0) (N := 10) hx hb hts hinX0 hown hK hP 1 rfl rfl 2 (by decide) hf_38 (fun _ h9 => h9) rfl dX3_tagOf_8 ?_
  refine lv_iload_n hx hb dX3_tagOf_11 rfl (lv_at hl 1 rfl) ?_
  refine cl_Vi (As := [.ref r2, .int node]) (rest := []) (wr := [(k0, .inr (2, [.ref r0, .ref v0])), (v0, .inr (1, [.ref v1, .int (nI wz), .ref v2, .int (nI dp)])), (v1, .inl (cA, 300, .inl (nA bt))), (v2, .inl (cA, 16, .inl (nA op)))]) ⟨hx, hb, hml, hown, hts⟩ (k_X0_ofNode_tg l dC dI cA r0 r1 r2 r3 r4 r5 r6 row rs tg st ln pa nd ar lv of node _ hnd) (cwV 2 hts gX3_tagOf_X0_ofNode rfl rfl rfl (by decide +kernel) ⟨Nat.le_of_ble_eq_true rfl, Nat.le_of_ble_eq_true rfl⟩) hK hP hD hS hA [1, 2, 3, 4, 5, 6, 7] [0, 8, 9, 10] rfl rfl (by decide) (by decide) (by decide) (ci := 0) (q0 := 0) rfl rfl rfl rfl hl.1 rfl (Nat.le_of_ble_eq_true rfl) dX3_tagOf_12 ⟨Nat.le_of_ble_eq_true rfl, Nat.le_of_ble_eq_true rfl⟩ (fun r_1 u_1 H locs hw_1 hP hD hS => ?_)
  have hP : va_P (dC, dI) vwCl ((wK cA k0 r0 v0) ++ (wR cA r0 r1 r2 r3 r4 r5 r6 row rs tg st ln pa nd ar lv of) ++ (wW cA v0 v1 v2 bt wz op dp)) H := hP.sub [0, 4, 5, 6, 7, 8, 9, 10, 1, 2, 3] rfl
  have hD : va_D A ((wK cA k0 r0 v0) ++ (wR cA r0 r1 r2 r3 r4 r5 r6 row rs tg st ln pa nd ar lv of) ++ (wW cA v0 v1 v2 bt wz op dp)) := hD.sub [0, 4, 5, 6, 7, 8, 9, 10, 1, 2, 3] (by decide) rfl
  have hw_1 : r_1 = if isNd nd node then nI (tg node.toNatClampNeg) else -1 := hw_1
  have hP9 : va_P (dC, dI) vwCl (vX3_tagOf cA k0 r0 v0 r1 r2 r3 r4 r5 r6 row rs tg st ln pa nd ar lv of v1 v2 bt wz op dp node ()) _ := hP
  have hD9 : va_D A (vX3_tagOf cA k0 r0 v0 r1 r2 r3 r4 r5 r6 row rs tg st ln pa nd ar lv of v1 v2 bt wz op dp node ()) := hD
  have hq9 : pX3_tagOf k0 r0 v0 r1 r2 r3 r4 r5 r6 row rs tg st ln pa nd ar lv of v1 v2 bt wz op dp node (r_1) () := hw_1
  exact W.iret (v := r_1) hx hb hr (fun t ht hW => ⟨⟨r_1, (), rfl, hq9, by rw [ht]; exact hP9, va_K.moved hW.alike hK, hD9⟩, hS.F ht⟩) hS.2.2 dX3_tagOf_15
abbrev pX3_contentAt (k0 : Nat) (r0 : Nat) (v0 : Nat) (r1 : Nat) (r2 : Nat) (r3 : Nat) (r4 : Nat) (r5 : Nat) (r6 : Nat) (row : Nat → Nat) (rs : Nat) (tg : Nat → Nat) (st : Nat → Nat) (ln : Nat → Nat) (pa : Nat → Int32) (nd : Nat) (ar : Nat → Nat) (lv : Nat) (of : Int32) (v1 : Nat) (v2 : Nat) (bt : Nat → Nat) (wz : Nat) (op : Nat → Nat) (dp : Nat) (node : Int32) : Int32 → Unit → Prop := fun (r : Int32) (u : Unit) => r = if isNd nd node then nI (st node.toNatClampNeg) else -1
abbrev vX3_contentAt (cA : ClassId) (k0 : Nat) (r0 : Nat) (v0 : Nat) (r1 : Nat) (r2 : Nat) (r3 : Nat) (r4 : Nat) (r5 : Nat) (r6 : Nat) (row : Nat → Nat) (rs : Nat) (tg : Nat → Nat) (st : Nat → Nat) (ln : Nat → Nat) (pa : Nat → Int32) (nd : Nat) (ar : Nat → Nat) (lv : Nat) (of : Int32) (v1 : Nat) (v2 : Nat) (bt : Nat → Nat) (wz : Nat) (op : Nat → Nat) (dp : Nat) (node : Int32) : Unit → va_W := fun (u : Unit) => (wK cA k0 r0 v0) ++ (wR cA r0 r1 r2 r3 r4 r5 r6 row rs tg st ln pa nd ar lv of) ++ (wW cA v0 v1 v2 bt wz op dp)
abbrev qX3_contentAt (dC : Nat → ClassId) (dI : Nat → Nat → Nat) (cA : ClassId) (A : Nat → Prop) (k0 : Nat) (r0 : Nat) (v0 : Nat) (r1 : Nat) (r2 : Nat) (r3 : Nat) (r4 : Nat) (r5 : Nat) (r6 : Nat) (row : Nat → Nat) (rs : Nat) (tg : Nat → Nat) (st : Nat → Nat) (ln : Nat → Nat) (pa : Nat → Int32) (nd : Nat) (ar : Nat → Nat) (lv : Nat) (of : Int32) (v1 : Nat) (v2 : Nat) (bt : Nat → Nat) (wz : Nat) (op : Nat → Nat) (dp : Nat) (node : Int32) : Array Value → State → Outcome → State → Prop := va_Qi (pX3_contentAt k0 r0 v0 r1 r2 r3 r4 r5 r6 row rs tg st ln pa nd ar lv of v1 v2 bt wz op dp node) (fun u => cAft dC dI cA A (vX3_contentAt cA k0 r0 v0 r1 r2 r3 r4 r5 r6 row rs tg st ln pa nd ar lv of v1 v2 bt wz op dp node u)) A
set_option maxHeartbeats 4000000 in
set_option maxRecDepth 100000 in
theorem k_X3_contentAt (l : Launch) (dC : Nat → ClassId) (dI : Nat → Nat → Nat) (cA : ClassId) (k0 : Nat) (r0 : Nat) (v0 : Nat) (r1 : Nat) (r2 : Nat) (r3 : Nat) (r4 : Nat) (r5 : Nat) (r6 : Nat) (row : Nat → Nat) (rs : Nat) (tg : Nat → Nat) (st : Nat → Nat) (ln : Nat → Nat) (pa : Nat → Int32) (nd : Nat) (ar : Nat → Nat) (lv : Nat) (of : Int32) (v1 : Nat) (v2 : Nat) (bt : Nat → Nat) (wz : Nat) (op : Nat → Nat) (dp : Nat) (node : Int32) (sz : Nat) (hnd : nd ≤ 64) : Met l yX3_contentAt wsX3_contentAt ({ frames := 2, cells := 0, slots := 0, locals := 43 } : Room) (va_Pc [.ref k0, .int node] (fun U => cPre dC dI cA ((wK cA k0 r0 v0) ++ (wR cA r0 r1 r2 r3 r4 r5 r6 row rs tg st ln pa nd ar lv of) ++ (wW cA v0 v1 v2 bt wz op dp)) sz U ∧ nestP U)) (qX3_contentAt dC dI cA (va_A ((wK cA k0 r0 v0) ++ (wR cA r0 r1 r2 r3 r4 r5 r6 row rs tg st ln pa nd ar lv of) ++ (wW cA v0 v1 v2 bt wz op dp)) sz) k0 r0 v0 r1 r2 r3 r4 r5 r6 row rs tg st ln pa nd ar lv of v1 v2 bt wz op dp node) 0 0 (va_A ((wK cA k0 r0 v0) ++ (wR cA r0 r1 r2 r3 r4 r5 r6 row rs tg st ln pa nd ar lv of) ++ (wW cA v0 v1 v2 bt wz op dp)) sz) := by
  refine Met.ofW (cc := cX3_contentAt) (maxL := 2) (ret := (some .int)) (by decide) rfl ?_
  intro p e s m args below meth c s₁ B hml hv
  obtain ⟨rfl, ⟨hsz, hP, hK, hD0⟩, hN⟩ := hv
  have hx := B.exec
  have hb := B.bytes
  have hr := B.returns
  have hts := atoms_spec (ws := wsX3_contentAt) B.pre
  have hown : s.vm.findClass RX3 = some m.cls := findClass_of_methodNamed B.named
  have hlocks := B.notSynchronized
  subst hsz
  have hD := hD0.self (sz := s.heap.size)
  generalize hAe : va_A ((wK cA k0 r0 v0) ++ (wR cA r0 r1 r2 r3 r4 r5 r6 row rs tg st ln pa nd ar lv of) ++ (wW cA v0 v1 v2 bt wz op dp)) s.heap.size = A at hD ⊢
  have hA : ∀ q : Nat, s.heap.size ≤ q → A q := fun q h => by rw [← hAe]; exact Or.inr h
  have hS : va_S A s.heap s.heap [] := va_S.rf
  have hl := lv_entry ([.ref k0, .int node]) (n := 2) (Nat.le_of_ble_eq_true rfl)
  rw [lg_entry_eq]
  generalize (lg_sl ([.ref k0, .int node]) ++ List.replicate (2 - (lg_sl ([.ref k0, .int node])).length) Slot.unset).toArray = ls at hl ⊢
  have hl : lv_has ls 2 [(0, .ref k0), (1, .int node)] := hl
  have hinX3 : ∀ w ∈ wsX30, w ∈ wsX3_contentAt := fun _ h => List.mem_cons_of_mem _ (List.mem_append_left _ (List.mem_append_right _ h))
  have hinX0 : ∀ w ∈ wsX00, w ∈ wsX3_contentAt := fun _ h => List.mem_cons_of_mem _ (List.mem_append_right _ h)
  have hf_10 := hts (.fieldLink RX3 10 "DerDesk" "reader" "LDerDesk$Reader;") (by decide +kernel)
  have hf_46 : (Cond.fieldLinkNest RX3 46 "DerDesk$Reader" "starts" "[I" "DerDesk").before ([.ref k0, .int node] : List Value).toArray s = true := va_Nw.use rfl (hN _ (by decide +kernel))
  have hP : va_P (dC, dI) vwCl ((wK cA k0 r0 v0) ++ (wR cA r0 r1 r2 r3 r4 r5 r6 row rs tg st ln pa nd ar lv of) ++ (wW cA v0 v1 v2 bt wz op dp)) s.heap := hP
  refine lv_aload_n hx hb dX3_contentAt_0 rfl (lv_at hl 0 rfl) ?_
  refine va_get (D := (dC, dI)) (ci := 2) (v := .ref r0) (C := RX3) (T := TX3) (N := 2) hx hb hts hinX3 hown hK hP 0 rfl rfl 0 (by decide) hf_10 (fun _ h9 => h9) rfl dX3_contentAt_1 ?_
  refine lv_aload_n hx hb dX3_contentAt_4 rfl (lv_at hl 0 rfl) ?_
  refine va_get (D := (dC, dI)) (ci := 2) (v := .ref r0) (C := RX3) (T := TX3) (N := 2) hx hb hts hinX3 hown hK hP 0 rfl rfl 0 (by decide) hf_10 (fun _ h9 => h9) rfl dX3_contentAt_5 ?_
  refine va_getN (D := (dC, dI)) (ci := 0) (v := .ref r3) (C := RX0) (T := TX0) (N := 10) hx hb hts hinX0 hown hK hP 1 rfl rfl 3 (by decide) hf_46 (fun _ h9 => h9) rfl dX3_contentAt_8 ?_
  refine lv_iload_n hx hb dX3_contentAt_11 rfl (lv_at hl 1 rfl) ?_
  refine cl_Vi (As := [.ref r3, .int node]) (rest := []) (wr := [(k0, .inr (2, [.ref r0, .ref v0])), (v0, .inr (1, [.ref v1, .int (nI wz), .ref v2, .int (nI dp)])), (v1, .inl (cA, 300, .inl (nA bt))), (v2, .inl (cA, 16, .inl (nA op)))]) ⟨hx, hb, hml, hown, hts⟩ (k_X0_ofNode_st l dC dI cA r0 r1 r2 r3 r4 r5 r6 row rs tg st ln pa nd ar lv of node _ hnd) (cwV 2 hts gX3_contentAt_X0_ofNode rfl rfl rfl (by decide +kernel) ⟨Nat.le_of_ble_eq_true rfl, Nat.le_of_ble_eq_true rfl⟩) hK hP hD hS hA [1, 2, 3, 4, 5, 6, 7] [0, 8, 9, 10] rfl rfl (by decide) (by decide) (by decide) (ci := 0) (q0 := 0) rfl rfl rfl rfl hl.1 rfl (Nat.le_of_ble_eq_true rfl) dX3_contentAt_12 ⟨Nat.le_of_ble_eq_true rfl, Nat.le_of_ble_eq_true rfl⟩ (fun r_1 u_1 H locs hw_1 hP hD hS => ?_)
  have hP : va_P (dC, dI) vwCl ((wK cA k0 r0 v0) ++ (wR cA r0 r1 r2 r3 r4 r5 r6 row rs tg st ln pa nd ar lv of) ++ (wW cA v0 v1 v2 bt wz op dp)) H := hP.sub [0, 4, 5, 6, 7, 8, 9, 10, 1, 2, 3] rfl
  have hD : va_D A ((wK cA k0 r0 v0) ++ (wR cA r0 r1 r2 r3 r4 r5 r6 row rs tg st ln pa nd ar lv of) ++ (wW cA v0 v1 v2 bt wz op dp)) := hD.sub [0, 4, 5, 6, 7, 8, 9, 10, 1, 2, 3] (by decide) rfl
  have hw_1 : r_1 = if isNd nd node then nI (st node.toNatClampNeg) else -1 := hw_1
  have hP9 : va_P (dC, dI) vwCl (vX3_contentAt cA k0 r0 v0 r1 r2 r3 r4 r5 r6 row rs tg st ln pa nd ar lv of v1 v2 bt wz op dp node ()) _ := hP
  have hD9 : va_D A (vX3_contentAt cA k0 r0 v0 r1 r2 r3 r4 r5 r6 row rs tg st ln pa nd ar lv of v1 v2 bt wz op dp node ()) := hD
  have hq9 : pX3_contentAt k0 r0 v0 r1 r2 r3 r4 r5 r6 row rs tg st ln pa nd ar lv of v1 v2 bt wz op dp node (r_1) () := hw_1
  exact W.iret (v := r_1) hx hb hr (fun t ht hW => ⟨⟨r_1, (), rfl, hq9, by rw [ht]; exact hP9, va_K.moved hW.alike hK, hD9⟩, hS.F ht⟩) hS.2.2 dX3_contentAt_15
abbrev pX3_contentLen (k0 : Nat) (r0 : Nat) (v0 : Nat) (r1 : Nat) (r2 : Nat) (r3 : Nat) (r4 : Nat) (r5 : Nat) (r6 : Nat) (row : Nat → Nat) (rs : Nat) (tg : Nat → Nat) (st : Nat → Nat) (ln : Nat → Nat) (pa : Nat → Int32) (nd : Nat) (ar : Nat → Nat) (lv : Nat) (of : Int32) (v1 : Nat) (v2 : Nat) (bt : Nat → Nat) (wz : Nat) (op : Nat → Nat) (dp : Nat) (node : Int32) : Int32 → Unit → Prop := fun (r : Int32) (u : Unit) => r = if isNd nd node then nI (ln node.toNatClampNeg) else -1
abbrev vX3_contentLen (cA : ClassId) (k0 : Nat) (r0 : Nat) (v0 : Nat) (r1 : Nat) (r2 : Nat) (r3 : Nat) (r4 : Nat) (r5 : Nat) (r6 : Nat) (row : Nat → Nat) (rs : Nat) (tg : Nat → Nat) (st : Nat → Nat) (ln : Nat → Nat) (pa : Nat → Int32) (nd : Nat) (ar : Nat → Nat) (lv : Nat) (of : Int32) (v1 : Nat) (v2 : Nat) (bt : Nat → Nat) (wz : Nat) (op : Nat → Nat) (dp : Nat) (node : Int32) : Unit → va_W := fun (u : Unit) => (wK cA k0 r0 v0) ++ (wR cA r0 r1 r2 r3 r4 r5 r6 row rs tg st ln pa nd ar lv of) ++ (wW cA v0 v1 v2 bt wz op dp)
abbrev qX3_contentLen (dC : Nat → ClassId) (dI : Nat → Nat → Nat) (cA : ClassId) (A : Nat → Prop) (k0 : Nat) (r0 : Nat) (v0 : Nat) (r1 : Nat) (r2 : Nat) (r3 : Nat) (r4 : Nat) (r5 : Nat) (r6 : Nat) (row : Nat → Nat) (rs : Nat) (tg : Nat → Nat) (st : Nat → Nat) (ln : Nat → Nat) (pa : Nat → Int32) (nd : Nat) (ar : Nat → Nat) (lv : Nat) (of : Int32) (v1 : Nat) (v2 : Nat) (bt : Nat → Nat) (wz : Nat) (op : Nat → Nat) (dp : Nat) (node : Int32) : Array Value → State → Outcome → State → Prop := va_Qi (pX3_contentLen k0 r0 v0 r1 r2 r3 r4 r5 r6 row rs tg st ln pa nd ar lv of v1 v2 bt wz op dp node) (fun u => cAft dC dI cA A (vX3_contentLen cA k0 r0 v0 r1 r2 r3 r4 r5 r6 row rs tg st ln pa nd ar lv of v1 v2 bt wz op dp node u)) A
set_option maxHeartbeats 4000000 in
set_option maxRecDepth 100000 in
theorem k_X3_contentLen (l : Launch) (dC : Nat → ClassId) (dI : Nat → Nat → Nat) (cA : ClassId) (k0 : Nat) (r0 : Nat) (v0 : Nat) (r1 : Nat) (r2 : Nat) (r3 : Nat) (r4 : Nat) (r5 : Nat) (r6 : Nat) (row : Nat → Nat) (rs : Nat) (tg : Nat → Nat) (st : Nat → Nat) (ln : Nat → Nat) (pa : Nat → Int32) (nd : Nat) (ar : Nat → Nat) (lv : Nat) (of : Int32) (v1 : Nat) (v2 : Nat) (bt : Nat → Nat) (wz : Nat) (op : Nat → Nat) (dp : Nat) (node : Int32) (sz : Nat) (hnd : nd ≤ 64) : Met l yX3_contentLen wsX3_contentLen ({ frames := 2, cells := 0, slots := 0, locals := 43 } : Room) (va_Pc [.ref k0, .int node] (fun U => cPre dC dI cA ((wK cA k0 r0 v0) ++ (wR cA r0 r1 r2 r3 r4 r5 r6 row rs tg st ln pa nd ar lv of) ++ (wW cA v0 v1 v2 bt wz op dp)) sz U ∧ nestP U)) (qX3_contentLen dC dI cA (va_A ((wK cA k0 r0 v0) ++ (wR cA r0 r1 r2 r3 r4 r5 r6 row rs tg st ln pa nd ar lv of) ++ (wW cA v0 v1 v2 bt wz op dp)) sz) k0 r0 v0 r1 r2 r3 r4 r5 r6 row rs tg st ln pa nd ar lv of v1 v2 bt wz op dp node) 0 0 (va_A ((wK cA k0 r0 v0) ++ (wR cA r0 r1 r2 r3 r4 r5 r6 row rs tg st ln pa nd ar lv of) ++ (wW cA v0 v1 v2 bt wz op dp)) sz) := by
  refine Met.ofW (cc := cX3_contentLen) (maxL := 2) (ret := (some .int)) (by decide) rfl ?_
  intro p e s m args below meth c s₁ B hml hv
  obtain ⟨rfl, ⟨hsz, hP, hK, hD0⟩, hN⟩ := hv
  have hx := B.exec
  have hb := B.bytes
  have hr := B.returns
  have hts := atoms_spec (ws := wsX3_contentLen) B.pre
  have hown : s.vm.findClass RX3 = some m.cls := findClass_of_methodNamed B.named
  have hlocks := B.notSynchronized
  subst hsz
  have hD := hD0.self (sz := s.heap.size)
  generalize hAe : va_A ((wK cA k0 r0 v0) ++ (wR cA r0 r1 r2 r3 r4 r5 r6 row rs tg st ln pa nd ar lv of) ++ (wW cA v0 v1 v2 bt wz op dp)) s.heap.size = A at hD ⊢
  have hA : ∀ q : Nat, s.heap.size ≤ q → A q := fun q h => by rw [← hAe]; exact Or.inr h
  have hS : va_S A s.heap s.heap [] := va_S.rf
  have hl := lv_entry ([.ref k0, .int node]) (n := 2) (Nat.le_of_ble_eq_true rfl)
  rw [lg_entry_eq]
  generalize (lg_sl ([.ref k0, .int node]) ++ List.replicate (2 - (lg_sl ([.ref k0, .int node])).length) Slot.unset).toArray = ls at hl ⊢
  have hl : lv_has ls 2 [(0, .ref k0), (1, .int node)] := hl
  have hinX3 : ∀ w ∈ wsX30, w ∈ wsX3_contentLen := fun _ h => List.mem_cons_of_mem _ (List.mem_append_left _ (List.mem_append_right _ h))
  have hinX0 : ∀ w ∈ wsX00, w ∈ wsX3_contentLen := fun _ h => List.mem_cons_of_mem _ (List.mem_append_right _ h)
  have hf_10 := hts (.fieldLink RX3 10 "DerDesk" "reader" "LDerDesk$Reader;") (by decide +kernel)
  have hf_49 : (Cond.fieldLinkNest RX3 49 "DerDesk$Reader" "lengths" "[I" "DerDesk").before ([.ref k0, .int node] : List Value).toArray s = true := va_Nw.use rfl (hN _ (by decide +kernel))
  have hP : va_P (dC, dI) vwCl ((wK cA k0 r0 v0) ++ (wR cA r0 r1 r2 r3 r4 r5 r6 row rs tg st ln pa nd ar lv of) ++ (wW cA v0 v1 v2 bt wz op dp)) s.heap := hP
  refine lv_aload_n hx hb dX3_contentLen_0 rfl (lv_at hl 0 rfl) ?_
  refine va_get (D := (dC, dI)) (ci := 2) (v := .ref r0) (C := RX3) (T := TX3) (N := 2) hx hb hts hinX3 hown hK hP 0 rfl rfl 0 (by decide) hf_10 (fun _ h9 => h9) rfl dX3_contentLen_1 ?_
  refine lv_aload_n hx hb dX3_contentLen_4 rfl (lv_at hl 0 rfl) ?_
  refine va_get (D := (dC, dI)) (ci := 2) (v := .ref r0) (C := RX3) (T := TX3) (N := 2) hx hb hts hinX3 hown hK hP 0 rfl rfl 0 (by decide) hf_10 (fun _ h9 => h9) rfl dX3_contentLen_5 ?_
  refine va_getN (D := (dC, dI)) (ci := 0) (v := .ref r4) (C := RX0) (T := TX0) (N := 10) hx hb hts hinX0 hown hK hP 1 rfl rfl 4 (by decide) hf_49 (fun _ h9 => h9) rfl dX3_contentLen_8 ?_
  refine lv_iload_n hx hb dX3_contentLen_11 rfl (lv_at hl 1 rfl) ?_
  refine cl_Vi (As := [.ref r4, .int node]) (rest := []) (wr := [(k0, .inr (2, [.ref r0, .ref v0])), (v0, .inr (1, [.ref v1, .int (nI wz), .ref v2, .int (nI dp)])), (v1, .inl (cA, 300, .inl (nA bt))), (v2, .inl (cA, 16, .inl (nA op)))]) ⟨hx, hb, hml, hown, hts⟩ (k_X0_ofNode_ln l dC dI cA r0 r1 r2 r3 r4 r5 r6 row rs tg st ln pa nd ar lv of node _ hnd) (cwV 2 hts gX3_contentLen_X0_ofNode rfl rfl rfl (by decide +kernel) ⟨Nat.le_of_ble_eq_true rfl, Nat.le_of_ble_eq_true rfl⟩) hK hP hD hS hA [1, 2, 3, 4, 5, 6, 7] [0, 8, 9, 10] rfl rfl (by decide) (by decide) (by decide) (ci := 0) (q0 := 0) rfl rfl rfl rfl hl.1 rfl (Nat.le_of_ble_eq_true rfl) dX3_contentLen_12 ⟨Nat.le_of_ble_eq_true rfl, Nat.le_of_ble_eq_true rfl⟩ (fun r_1 u_1 H locs hw_1 hP hD hS => ?_)
  have hP : va_P (dC, dI) vwCl ((wK cA k0 r0 v0) ++ (wR cA r0 r1 r2 r3 r4 r5 r6 row rs tg st ln pa nd ar lv of) ++ (wW cA v0 v1 v2 bt wz op dp)) H := hP.sub [0, 4, 5, 6, 7, 8, 9, 10, 1, 2, 3] rfl
  have hD : va_D A ((wK cA k0 r0 v0) ++ (wR cA r0 r1 r2 r3 r4 r5 r6 row rs tg st ln pa nd ar lv of) ++ (wW cA v0 v1 v2 bt wz op dp)) := hD.sub [0, 4, 5, 6, 7, 8, 9, 10, 1, 2, 3] (by decide) rfl
  have hw_1 : r_1 = if isNd nd node then nI (ln node.toNatClampNeg) else -1 := hw_1
  have hP9 : va_P (dC, dI) vwCl (vX3_contentLen cA k0 r0 v0 r1 r2 r3 r4 r5 r6 row rs tg st ln pa nd ar lv of v1 v2 bt wz op dp node ()) _ := hP
  have hD9 : va_D A (vX3_contentLen cA k0 r0 v0 r1 r2 r3 r4 r5 r6 row rs tg st ln pa nd ar lv of v1 v2 bt wz op dp node ()) := hD
  have hq9 : pX3_contentLen k0 r0 v0 r1 r2 r3 r4 r5 r6 row rs tg st ln pa nd ar lv of v1 v2 bt wz op dp node (r_1) () := hw_1
  exact W.iret (v := r_1) hx hb hr (fun t ht hW => ⟨⟨r_1, (), rfl, hq9, by rw [ht]; exact hP9, va_K.moved hW.alike hK, hD9⟩, hS.F ht⟩) hS.2.2 dX3_contentLen_15
abbrev pX3_parent (k0 : Nat) (r0 : Nat) (v0 : Nat) (r1 : Nat) (r2 : Nat) (r3 : Nat) (r4 : Nat) (r5 : Nat) (r6 : Nat) (row : Nat → Nat) (rs : Nat) (tg : Nat → Nat) (st : Nat → Nat) (ln : Nat → Nat) (pa : Nat → Int32) (nd : Nat) (ar : Nat → Nat) (lv : Nat) (of : Int32) (v1 : Nat) (v2 : Nat) (bt : Nat → Nat) (wz : Nat) (op : Nat → Nat) (dp : Nat) (node : Int32) : Int32 → Unit → Prop := fun (r : Int32) (u : Unit) => r = if isNd nd node then pa node.toNatClampNeg else -1
abbrev vX3_parent (cA : ClassId) (k0 : Nat) (r0 : Nat) (v0 : Nat) (r1 : Nat) (r2 : Nat) (r3 : Nat) (r4 : Nat) (r5 : Nat) (r6 : Nat) (row : Nat → Nat) (rs : Nat) (tg : Nat → Nat) (st : Nat → Nat) (ln : Nat → Nat) (pa : Nat → Int32) (nd : Nat) (ar : Nat → Nat) (lv : Nat) (of : Int32) (v1 : Nat) (v2 : Nat) (bt : Nat → Nat) (wz : Nat) (op : Nat → Nat) (dp : Nat) (node : Int32) : Unit → va_W := fun (u : Unit) => (wK cA k0 r0 v0) ++ (wR cA r0 r1 r2 r3 r4 r5 r6 row rs tg st ln pa nd ar lv of) ++ (wW cA v0 v1 v2 bt wz op dp)
abbrev qX3_parent (dC : Nat → ClassId) (dI : Nat → Nat → Nat) (cA : ClassId) (A : Nat → Prop) (k0 : Nat) (r0 : Nat) (v0 : Nat) (r1 : Nat) (r2 : Nat) (r3 : Nat) (r4 : Nat) (r5 : Nat) (r6 : Nat) (row : Nat → Nat) (rs : Nat) (tg : Nat → Nat) (st : Nat → Nat) (ln : Nat → Nat) (pa : Nat → Int32) (nd : Nat) (ar : Nat → Nat) (lv : Nat) (of : Int32) (v1 : Nat) (v2 : Nat) (bt : Nat → Nat) (wz : Nat) (op : Nat → Nat) (dp : Nat) (node : Int32) : Array Value → State → Outcome → State → Prop := va_Qi (pX3_parent k0 r0 v0 r1 r2 r3 r4 r5 r6 row rs tg st ln pa nd ar lv of v1 v2 bt wz op dp node) (fun u => cAft dC dI cA A (vX3_parent cA k0 r0 v0 r1 r2 r3 r4 r5 r6 row rs tg st ln pa nd ar lv of v1 v2 bt wz op dp node u)) A
set_option maxHeartbeats 4000000 in
set_option maxRecDepth 100000 in
theorem k_X3_parent (l : Launch) (dC : Nat → ClassId) (dI : Nat → Nat → Nat) (cA : ClassId) (k0 : Nat) (r0 : Nat) (v0 : Nat) (r1 : Nat) (r2 : Nat) (r3 : Nat) (r4 : Nat) (r5 : Nat) (r6 : Nat) (row : Nat → Nat) (rs : Nat) (tg : Nat → Nat) (st : Nat → Nat) (ln : Nat → Nat) (pa : Nat → Int32) (nd : Nat) (ar : Nat → Nat) (lv : Nat) (of : Int32) (v1 : Nat) (v2 : Nat) (bt : Nat → Nat) (wz : Nat) (op : Nat → Nat) (dp : Nat) (node : Int32) (sz : Nat) (hnd : nd ≤ 64) : Met l yX3_parent wsX3_parent ({ frames := 2, cells := 0, slots := 0, locals := 43 } : Room) (va_Pc [.ref k0, .int node] (fun U => cPre dC dI cA ((wK cA k0 r0 v0) ++ (wR cA r0 r1 r2 r3 r4 r5 r6 row rs tg st ln pa nd ar lv of) ++ (wW cA v0 v1 v2 bt wz op dp)) sz U ∧ nestP U)) (qX3_parent dC dI cA (va_A ((wK cA k0 r0 v0) ++ (wR cA r0 r1 r2 r3 r4 r5 r6 row rs tg st ln pa nd ar lv of) ++ (wW cA v0 v1 v2 bt wz op dp)) sz) k0 r0 v0 r1 r2 r3 r4 r5 r6 row rs tg st ln pa nd ar lv of v1 v2 bt wz op dp node) 0 0 (va_A ((wK cA k0 r0 v0) ++ (wR cA r0 r1 r2 r3 r4 r5 r6 row rs tg st ln pa nd ar lv of) ++ (wW cA v0 v1 v2 bt wz op dp)) sz) := by
  refine Met.ofW (cc := cX3_parent) (maxL := 2) (ret := (some .int)) (by decide) rfl ?_
  intro p e s m args below meth c s₁ B hml hv
  obtain ⟨rfl, ⟨hsz, hP, hK, hD0⟩, hN⟩ := hv
  have hx := B.exec
  have hb := B.bytes
  have hr := B.returns
  have hts := atoms_spec (ws := wsX3_parent) B.pre
  have hown : s.vm.findClass RX3 = some m.cls := findClass_of_methodNamed B.named
  have hlocks := B.notSynchronized
  subst hsz
  have hD := hD0.self (sz := s.heap.size)
  generalize hAe : va_A ((wK cA k0 r0 v0) ++ (wR cA r0 r1 r2 r3 r4 r5 r6 row rs tg st ln pa nd ar lv of) ++ (wW cA v0 v1 v2 bt wz op dp)) s.heap.size = A at hD ⊢
  have hA : ∀ q : Nat, s.heap.size ≤ q → A q := fun q h => by rw [← hAe]; exact Or.inr h
  have hS : va_S A s.heap s.heap [] := va_S.rf
  have hl := lv_entry ([.ref k0, .int node]) (n := 2) (Nat.le_of_ble_eq_true rfl)
  rw [lg_entry_eq]
  generalize (lg_sl ([.ref k0, .int node]) ++ List.replicate (2 - (lg_sl ([.ref k0, .int node])).length) Slot.unset).toArray = ls at hl ⊢
  have hl : lv_has ls 2 [(0, .ref k0), (1, .int node)] := hl
  have hinX3 : ∀ w ∈ wsX30, w ∈ wsX3_parent := fun _ h => List.mem_cons_of_mem _ (List.mem_append_left _ (List.mem_append_right _ h))
  have hinX0 : ∀ w ∈ wsX00, w ∈ wsX3_parent := fun _ h => List.mem_cons_of_mem _ (List.mem_append_right _ h)
  have hf_10 := hts (.fieldLink RX3 10 "DerDesk" "reader" "LDerDesk$Reader;") (by decide +kernel)
  have hf_52 : (Cond.fieldLinkNest RX3 52 "DerDesk$Reader" "parents" "[I" "DerDesk").before ([.ref k0, .int node] : List Value).toArray s = true := va_Nw.use rfl (hN _ (by decide +kernel))
  have hP : va_P (dC, dI) vwCl ((wK cA k0 r0 v0) ++ (wR cA r0 r1 r2 r3 r4 r5 r6 row rs tg st ln pa nd ar lv of) ++ (wW cA v0 v1 v2 bt wz op dp)) s.heap := hP
  refine lv_aload_n hx hb dX3_parent_0 rfl (lv_at hl 0 rfl) ?_
  refine va_get (D := (dC, dI)) (ci := 2) (v := .ref r0) (C := RX3) (T := TX3) (N := 2) hx hb hts hinX3 hown hK hP 0 rfl rfl 0 (by decide) hf_10 (fun _ h9 => h9) rfl dX3_parent_1 ?_
  refine lv_aload_n hx hb dX3_parent_4 rfl (lv_at hl 0 rfl) ?_
  refine va_get (D := (dC, dI)) (ci := 2) (v := .ref r0) (C := RX3) (T := TX3) (N := 2) hx hb hts hinX3 hown hK hP 0 rfl rfl 0 (by decide) hf_10 (fun _ h9 => h9) rfl dX3_parent_5 ?_
  refine va_getN (D := (dC, dI)) (ci := 0) (v := .ref r5) (C := RX0) (T := TX0) (N := 10) hx hb hts hinX0 hown hK hP 1 rfl rfl 5 (by decide) hf_52 (fun _ h9 => h9) rfl dX3_parent_8 ?_
  refine lv_iload_n hx hb dX3_parent_11 rfl (lv_at hl 1 rfl) ?_
  refine cl_Vi (As := [.ref r5, .int node]) (rest := []) (wr := [(k0, .inr (2, [.ref r0, .ref v0])), (v0, .inr (1, [.ref v1, .int (nI wz), .ref v2, .int (nI dp)])), (v1, .inl (cA, 300, .inl (nA bt))), (v2, .inl (cA, 16, .inl (nA op)))]) ⟨hx, hb, hml, hown, hts⟩ (k_X0_ofNode_pa l dC dI cA r0 r1 r2 r3 r4 r5 r6 row rs tg st ln pa nd ar lv of node _ hnd) (cwV 2 hts gX3_parent_X0_ofNode rfl rfl rfl (by decide +kernel) ⟨Nat.le_of_ble_eq_true rfl, Nat.le_of_ble_eq_true rfl⟩) hK hP hD hS hA [1, 2, 3, 4, 5, 6, 7] [0, 8, 9, 10] rfl rfl (by decide) (by decide) (by decide) (ci := 0) (q0 := 0) rfl rfl rfl rfl hl.1 rfl (Nat.le_of_ble_eq_true rfl) dX3_parent_12 ⟨Nat.le_of_ble_eq_true rfl, Nat.le_of_ble_eq_true rfl⟩ (fun r_1 u_1 H locs hw_1 hP hD hS => ?_)
  have hP : va_P (dC, dI) vwCl ((wK cA k0 r0 v0) ++ (wR cA r0 r1 r2 r3 r4 r5 r6 row rs tg st ln pa nd ar lv of) ++ (wW cA v0 v1 v2 bt wz op dp)) H := hP.sub [0, 4, 5, 6, 7, 8, 9, 10, 1, 2, 3] rfl
  have hD : va_D A ((wK cA k0 r0 v0) ++ (wR cA r0 r1 r2 r3 r4 r5 r6 row rs tg st ln pa nd ar lv of) ++ (wW cA v0 v1 v2 bt wz op dp)) := hD.sub [0, 4, 5, 6, 7, 8, 9, 10, 1, 2, 3] (by decide) rfl
  have hw_1 : r_1 = if isNd nd node then pa node.toNatClampNeg else -1 := hw_1
  have hP9 : va_P (dC, dI) vwCl (vX3_parent cA k0 r0 v0 r1 r2 r3 r4 r5 r6 row rs tg st ln pa nd ar lv of v1 v2 bt wz op dp node ()) _ := hP
  have hD9 : va_D A (vX3_parent cA k0 r0 v0 r1 r2 r3 r4 r5 r6 row rs tg st ln pa nd ar lv of v1 v2 bt wz op dp node ()) := hD
  have hq9 : pX3_parent k0 r0 v0 r1 r2 r3 r4 r5 r6 row rs tg st ln pa nd ar lv of v1 v2 bt wz op dp node (r_1) () := hw_1
  exact W.iret (v := r_1) hx hb hr (fun t ht hW => ⟨⟨r_1, (), rfl, hq9, by rw [ht]; exact hP9, va_K.moved hW.alike hK, hD9⟩, hS.F ht⟩) hS.2.2 dX3_parent_15
abbrev pX3_oidArc (k0 : Nat) (r0 : Nat) (v0 : Nat) (r1 : Nat) (r2 : Nat) (r3 : Nat) (r4 : Nat) (r5 : Nat) (r6 : Nat) (row : Nat → Nat) (rs : Nat) (tg : Nat → Nat) (st : Nat → Nat) (ln : Nat → Nat) (pa : Nat → Int32) (nd : Nat) (ar : Nat → Nat) (lv : Nat) (of : Int32) (v1 : Nat) (v2 : Nat) (bt : Nat → Nat) (wz : Nat) (op : Nat → Nat) (dp : Nat) (node : Int32) (k : Int32) : Int32 → Unit → Prop := fun (r : Int32) (u : Unit) => r = if isNd nd node ∧ tg node.toNatClampNeg = 6 ∧ ¬ k < 0 then oidS row (st node.toNatClampNeg) (ln node.toNatClampNeg) k.toNatClampNeg else -1
abbrev vX3_oidArc (cA : ClassId) (k0 : Nat) (r0 : Nat) (v0 : Nat) (r1 : Nat) (r2 : Nat) (r3 : Nat) (r4 : Nat) (r5 : Nat) (r6 : Nat) (row : Nat → Nat) (rs : Nat) (tg : Nat → Nat) (st : Nat → Nat) (ln : Nat → Nat) (pa : Nat → Int32) (nd : Nat) (ar : Nat → Nat) (lv : Nat) (of : Int32) (v1 : Nat) (v2 : Nat) (bt : Nat → Nat) (wz : Nat) (op : Nat → Nat) (dp : Nat) (node : Int32) (k : Int32) : Unit → va_W := fun (u : Unit) => (wK cA k0 r0 v0) ++ (wR cA r0 r1 r2 r3 r4 r5 r6 row rs tg st ln pa nd ar lv of) ++ (wW cA v0 v1 v2 bt wz op dp)
abbrev qX3_oidArc (dC : Nat → ClassId) (dI : Nat → Nat → Nat) (cA : ClassId) (A : Nat → Prop) (k0 : Nat) (r0 : Nat) (v0 : Nat) (r1 : Nat) (r2 : Nat) (r3 : Nat) (r4 : Nat) (r5 : Nat) (r6 : Nat) (row : Nat → Nat) (rs : Nat) (tg : Nat → Nat) (st : Nat → Nat) (ln : Nat → Nat) (pa : Nat → Int32) (nd : Nat) (ar : Nat → Nat) (lv : Nat) (of : Int32) (v1 : Nat) (v2 : Nat) (bt : Nat → Nat) (wz : Nat) (op : Nat → Nat) (dp : Nat) (node : Int32) (k : Int32) : Array Value → State → Outcome → State → Prop := va_Qi (pX3_oidArc k0 r0 v0 r1 r2 r3 r4 r5 r6 row rs tg st ln pa nd ar lv of v1 v2 bt wz op dp node k) (fun u => cAft dC dI cA A (vX3_oidArc cA k0 r0 v0 r1 r2 r3 r4 r5 r6 row rs tg st ln pa nd ar lv of v1 v2 bt wz op dp node k u)) A
set_option maxHeartbeats 4000000 in
set_option maxRecDepth 100000 in
theorem k_X3_oidArc (l : Launch) (dC : Nat → ClassId) (dI : Nat → Nat → Nat) (cA : ClassId) (k0 : Nat) (r0 : Nat) (v0 : Nat) (r1 : Nat) (r2 : Nat) (r3 : Nat) (r4 : Nat) (r5 : Nat) (r6 : Nat) (row : Nat → Nat) (rs : Nat) (tg : Nat → Nat) (st : Nat → Nat) (ln : Nat → Nat) (pa : Nat → Int32) (nd : Nat) (ar : Nat → Nat) (lv : Nat) (of : Int32) (v1 : Nat) (v2 : Nat) (bt : Nat → Nat) (wz : Nat) (op : Nat → Nat) (dp : Nat) (node : Int32) (k : Int32) (sz : Nat) (hnd : nd ≤ 64) (hrow : ∀ j, row j < 256) (htg : ∀ j, tg j < 256) (hse : ∀ j, j < nd → st j + ln j ≤ 300) : Met l yX3_oidArc wsX3_oidArc ({ frames := 3, cells := 0, slots := 0, locals := 76 } : Room) (va_Pc [.ref k0, .int node, .int k] (fun U => cPre dC dI cA ((wK cA k0 r0 v0) ++ (wR cA r0 r1 r2 r3 r4 r5 r6 row rs tg st ln pa nd ar lv of) ++ (wW cA v0 v1 v2 bt wz op dp)) sz U ∧ nestP U)) (qX3_oidArc dC dI cA (va_A ((wK cA k0 r0 v0) ++ (wR cA r0 r1 r2 r3 r4 r5 r6 row rs tg st ln pa nd ar lv of) ++ (wW cA v0 v1 v2 bt wz op dp)) sz) k0 r0 v0 r1 r2 r3 r4 r5 r6 row rs tg st ln pa nd ar lv of v1 v2 bt wz op dp node k) 0 0 (va_A ((wK cA k0 r0 v0) ++ (wR cA r0 r1 r2 r3 r4 r5 r6 row rs tg st ln pa nd ar lv of) ++ (wW cA v0 v1 v2 bt wz op dp)) sz) := by
  refine Met.ofW (cc := cX3_oidArc) (maxL := 3) (ret := (some .int)) (by decide) rfl ?_
  intro p e s m args below meth c s₁ B hml hv
  obtain ⟨rfl, ⟨hsz, hP, hK, hD0⟩, hN⟩ := hv
  have hx := B.exec
  have hb := B.bytes
  have hr := B.returns
  have hts := atoms_spec (ws := wsX3_oidArc) B.pre
  have hown : s.vm.findClass RX3 = some m.cls := findClass_of_methodNamed B.named
  have hlocks := B.notSynchronized
  subst hsz
  have hD := hD0.self (sz := s.heap.size)
  generalize hAe : va_A ((wK cA k0 r0 v0) ++ (wR cA r0 r1 r2 r3 r4 r5 r6 row rs tg st ln pa nd ar lv of) ++ (wW cA v0 v1 v2 bt wz op dp)) s.heap.size = A at hD ⊢
  have hA : ∀ q : Nat, s.heap.size ≤ q → A q := fun q h => by rw [← hAe]; exact Or.inr h
  have hS : va_S A s.heap s.heap [] := va_S.rf
  have hl := lv_entry ([.ref k0, .int node, .int k]) (n := 3) (Nat.le_of_ble_eq_true rfl)
  rw [lg_entry_eq]
  generalize (lg_sl ([.ref k0, .int node, .int k]) ++ List.replicate (3 - (lg_sl ([.ref k0, .int node, .int k])).length) Slot.unset).toArray = ls at hl ⊢
  have hl : lv_has ls 3 [(0, .ref k0), (1, .int node), (2, .int k)] := hl
  have hinX3 : ∀ w ∈ wsX30, w ∈ wsX3_oidArc := fun _ h => List.mem_cons_of_mem _ (List.mem_append_left _ (List.mem_append_right _ h))
  have hinX0 : ∀ w ∈ wsX00, w ∈ wsX3_oidArc := fun _ h => List.mem_cons_of_mem _ (List.mem_append_right _ h)
  have hf_10 := hts (.fieldLink RX3 10 "DerDesk" "reader" "LDerDesk$Reader;") (by decide +kernel)
  have hP : va_P (dC, dI) vwCl ((wK cA k0 r0 v0) ++ (wR cA r0 r1 r2 r3 r4 r5 r6 row rs tg st ln pa nd ar lv of) ++ (wW cA v0 v1 v2 bt wz op dp)) s.heap := hP
  refine lv_aload_n hx hb dX3_oidArc_0 rfl (lv_at hl 0 rfl) ?_
  refine va_get (D := (dC, dI)) (ci := 2) (v := .ref r0) (C := RX3) (T := TX3) (N := 2) hx hb hts hinX3 hown hK hP 0 rfl rfl 0 (by decide) hf_10 (fun _ h9 => h9) rfl dX3_oidArc_1 ?_
  refine lv_iload_n hx hb dX3_oidArc_4 rfl (lv_at hl 1 rfl) ?_
  refine lv_iload_n hx hb dX3_oidArc_5 rfl (lv_at hl 2 rfl) ?_
  refine cl_Vi (As := [.int node, .int k]) (rest := []) (wr := [(k0, .inr (2, [.ref r0, .ref v0])), (v0, .inr (1, [.ref v1, .int (nI wz), .ref v2, .int (nI dp)])), (v1, .inl (cA, 300, .inl (nA bt))), (v2, .inl (cA, 16, .inl (nA op)))]) ⟨hx, hb, hml, hown, hts⟩ (k_X0_arcOf l dC dI cA r0 r1 r2 r3 r4 r5 r6 row rs tg st ln pa nd ar lv of node k _ hnd hrow htg hse) (cwV 2 hts gX3_oidArc_X0_arcOf rfl rfl rfl (by decide +kernel) ⟨Nat.le_of_ble_eq_true rfl, Nat.le_of_ble_eq_true rfl⟩) hK hP hD hS hA [1, 2, 3, 4, 5, 6, 7] [0, 8, 9, 10] rfl rfl (by decide) (by decide) (by decide) (ci := 0) (q0 := 0) rfl rfl rfl rfl hl.1 rfl (Nat.le_of_ble_eq_true rfl) dX3_oidArc_6 ⟨Nat.le_of_ble_eq_true rfl, Nat.le_of_ble_eq_true rfl⟩ (fun r_1 u_1 H locs hw_1 hP hD hS => ?_)
  have hP : va_P (dC, dI) vwCl ((wK cA k0 r0 v0) ++ (wR cA r0 r1 r2 r3 r4 r5 r6 row rs tg st ln pa nd ar lv of) ++ (wW cA v0 v1 v2 bt wz op dp)) H := hP.sub [0, 4, 5, 6, 7, 8, 9, 10, 1, 2, 3] rfl
  have hD : va_D A ((wK cA k0 r0 v0) ++ (wR cA r0 r1 r2 r3 r4 r5 r6 row rs tg st ln pa nd ar lv of) ++ (wW cA v0 v1 v2 bt wz op dp)) := hD.sub [0, 4, 5, 6, 7, 8, 9, 10, 1, 2, 3] (by decide) rfl
  have hw_1 : r_1 = if isNd nd node ∧ tg node.toNatClampNeg = 6 ∧ ¬ k < 0 then oidS row (st node.toNatClampNeg) (ln node.toNatClampNeg) k.toNatClampNeg else -1 := hw_1
  have hP9 : va_P (dC, dI) vwCl (vX3_oidArc cA k0 r0 v0 r1 r2 r3 r4 r5 r6 row rs tg st ln pa nd ar lv of v1 v2 bt wz op dp node k ()) _ := hP
  have hD9 : va_D A (vX3_oidArc cA k0 r0 v0 r1 r2 r3 r4 r5 r6 row rs tg st ln pa nd ar lv of v1 v2 bt wz op dp node k ()) := hD
  have hq9 : pX3_oidArc k0 r0 v0 r1 r2 r3 r4 r5 r6 row rs tg st ln pa nd ar lv of v1 v2 bt wz op dp node k (r_1) () := hw_1
  exact W.iret (v := r_1) hx hb hr (fun t ht hW => ⟨⟨r_1, (), rfl, hq9, by rw [ht]; exact hP9, va_K.moved hW.alike hK, hD9⟩, hS.F ht⟩) hS.2.2 dX3_oidArc_9
abbrev pX3_intFits (k0 : Nat) (r0 : Nat) (v0 : Nat) (r1 : Nat) (r2 : Nat) (r3 : Nat) (r4 : Nat) (r5 : Nat) (r6 : Nat) (row : Nat → Nat) (rs : Nat) (tg : Nat → Nat) (st : Nat → Nat) (ln : Nat → Nat) (pa : Nat → Int32) (nd : Nat) (ar : Nat → Nat) (lv : Nat) (of : Int32) (v1 : Nat) (v2 : Nat) (bt : Nat → Nat) (wz : Nat) (op : Nat → Nat) (dp : Nat) (node : Int32) : Int32 → Unit → Prop := fun (r : Int32) (u : Unit) => r = if isSm nd tg ln node then 1 else 0
abbrev vX3_intFits (cA : ClassId) (k0 : Nat) (r0 : Nat) (v0 : Nat) (r1 : Nat) (r2 : Nat) (r3 : Nat) (r4 : Nat) (r5 : Nat) (r6 : Nat) (row : Nat → Nat) (rs : Nat) (tg : Nat → Nat) (st : Nat → Nat) (ln : Nat → Nat) (pa : Nat → Int32) (nd : Nat) (ar : Nat → Nat) (lv : Nat) (of : Int32) (v1 : Nat) (v2 : Nat) (bt : Nat → Nat) (wz : Nat) (op : Nat → Nat) (dp : Nat) (node : Int32) : Unit → va_W := fun (u : Unit) => (wK cA k0 r0 v0) ++ (wR cA r0 r1 r2 r3 r4 r5 r6 row rs tg st ln pa nd ar lv of) ++ (wW cA v0 v1 v2 bt wz op dp)
abbrev qX3_intFits (dC : Nat → ClassId) (dI : Nat → Nat → Nat) (cA : ClassId) (A : Nat → Prop) (k0 : Nat) (r0 : Nat) (v0 : Nat) (r1 : Nat) (r2 : Nat) (r3 : Nat) (r4 : Nat) (r5 : Nat) (r6 : Nat) (row : Nat → Nat) (rs : Nat) (tg : Nat → Nat) (st : Nat → Nat) (ln : Nat → Nat) (pa : Nat → Int32) (nd : Nat) (ar : Nat → Nat) (lv : Nat) (of : Int32) (v1 : Nat) (v2 : Nat) (bt : Nat → Nat) (wz : Nat) (op : Nat → Nat) (dp : Nat) (node : Int32) : Array Value → State → Outcome → State → Prop := va_Qi (pX3_intFits k0 r0 v0 r1 r2 r3 r4 r5 r6 row rs tg st ln pa nd ar lv of v1 v2 bt wz op dp node) (fun u => cAft dC dI cA A (vX3_intFits cA k0 r0 v0 r1 r2 r3 r4 r5 r6 row rs tg st ln pa nd ar lv of v1 v2 bt wz op dp node u)) A
set_option maxHeartbeats 4000000 in
set_option maxRecDepth 100000 in
theorem k_X3_intFits (l : Launch) (dC : Nat → ClassId) (dI : Nat → Nat → Nat) (cA : ClassId) (k0 : Nat) (r0 : Nat) (v0 : Nat) (r1 : Nat) (r2 : Nat) (r3 : Nat) (r4 : Nat) (r5 : Nat) (r6 : Nat) (row : Nat → Nat) (rs : Nat) (tg : Nat → Nat) (st : Nat → Nat) (ln : Nat → Nat) (pa : Nat → Int32) (nd : Nat) (ar : Nat → Nat) (lv : Nat) (of : Int32) (v1 : Nat) (v2 : Nat) (bt : Nat → Nat) (wz : Nat) (op : Nat → Nat) (dp : Nat) (node : Int32) (sz : Nat) (hnd : nd ≤ 64) (htg : ∀ j, tg j < 256) (hln : ∀ j, ln j < 65536) : Met l yX3_intFits wsX3_intFits ({ frames := 2, cells := 0, slots := 0, locals := 42 } : Room) (va_Pc [.ref k0, .int node] (fun U => cPre dC dI cA ((wK cA k0 r0 v0) ++ (wR cA r0 r1 r2 r3 r4 r5 r6 row rs tg st ln pa nd ar lv of) ++ (wW cA v0 v1 v2 bt wz op dp)) sz U ∧ nestP U)) (qX3_intFits dC dI cA (va_A ((wK cA k0 r0 v0) ++ (wR cA r0 r1 r2 r3 r4 r5 r6 row rs tg st ln pa nd ar lv of) ++ (wW cA v0 v1 v2 bt wz op dp)) sz) k0 r0 v0 r1 r2 r3 r4 r5 r6 row rs tg st ln pa nd ar lv of v1 v2 bt wz op dp node) 0 0 (va_A ((wK cA k0 r0 v0) ++ (wR cA r0 r1 r2 r3 r4 r5 r6 row rs tg st ln pa nd ar lv of) ++ (wW cA v0 v1 v2 bt wz op dp)) sz) := by
  refine Met.ofW (cc := cX3_intFits) (maxL := 2) (ret := (some .boolean)) (by decide) rfl ?_
  intro p e s m args below meth c s₁ B hml hv
  obtain ⟨rfl, ⟨hsz, hP, hK, hD0⟩, hN⟩ := hv
  have hx := B.exec
  have hb := B.bytes
  have hr := B.returns
  have hts := atoms_spec (ws := wsX3_intFits) B.pre
  have hown : s.vm.findClass RX3 = some m.cls := findClass_of_methodNamed B.named
  have hlocks := B.notSynchronized
  subst hsz
  have hD := hD0.self (sz := s.heap.size)
  generalize hAe : va_A ((wK cA k0 r0 v0) ++ (wR cA r0 r1 r2 r3 r4 r5 r6 row rs tg st ln pa nd ar lv of) ++ (wW cA v0 v1 v2 bt wz op dp)) s.heap.size = A at hD ⊢
  have hA : ∀ q : Nat, s.heap.size ≤ q → A q := fun q h => by rw [← hAe]; exact Or.inr h
  have hS : va_S A s.heap s.heap [] := va_S.rf
  have hl := lv_entry ([.ref k0, .int node]) (n := 2) (Nat.le_of_ble_eq_true rfl)
  rw [lg_entry_eq]
  generalize (lg_sl ([.ref k0, .int node]) ++ List.replicate (2 - (lg_sl ([.ref k0, .int node])).length) Slot.unset).toArray = ls at hl ⊢
  have hl : lv_has ls 2 [(0, .ref k0), (1, .int node)] := hl
  have hinX3 : ∀ w ∈ wsX30, w ∈ wsX3_intFits := fun _ h => List.mem_cons_of_mem _ (List.mem_append_left _ (List.mem_append_right _ h))
  have hinX0 : ∀ w ∈ wsX00, w ∈ wsX3_intFits := fun _ h => List.mem_cons_of_mem _ (List.mem_append_right _ h)
  have hf_10 := hts (.fieldLink RX3 10 "DerDesk" "reader" "LDerDesk$Reader;") (by decide +kernel)
  have hP : va_P (dC, dI) vwCl ((wK cA k0 r0 v0) ++ (wR cA r0 r1 r2 r3 r4 r5 r6 row rs tg st ln pa nd ar lv of) ++ (wW cA v0 v1 v2 bt wz op dp)) s.heap := hP
  refine lv_aload_n hx hb dX3_intFits_0 rfl (lv_at hl 0 rfl) ?_
  refine va_get (D := (dC, dI)) (ci := 2) (v := .ref r0) (C := RX3) (T := TX3) (N := 2) hx hb hts hinX3 hown hK hP 0 rfl rfl 0 (by decide) hf_10 (fun _ h9 => h9) rfl dX3_intFits_1 ?_
  refine lv_iload_n hx hb dX3_intFits_4 rfl (lv_at hl 1 rfl) ?_
  refine cl_Vi (As := [.int node]) (rest := []) (wr := [(k0, .inr (2, [.ref r0, .ref v0])), (v0, .inr (1, [.ref v1, .int (nI wz), .ref v2, .int (nI dp)])), (v1, .inl (cA, 300, .inl (nA bt))), (v2, .inl (cA, 16, .inl (nA op)))]) ⟨hx, hb, hml, hown, hts⟩ (k_X0_isSmallInteger l dC dI cA r0 r1 r2 r3 r4 r5 r6 row rs tg st ln pa nd ar lv of node _ hnd htg hln) (cwV 1 hts gX3_intFits_X0_isSmallInteger rfl rfl rfl (by decide +kernel) ⟨Nat.le_of_ble_eq_true rfl, Nat.le_of_ble_eq_true rfl⟩) hK hP hD hS hA [1, 2, 3, 4, 5, 6, 7] [0, 8, 9, 10] rfl rfl (by decide) (by decide) (by decide) (ci := 0) (q0 := 0) rfl rfl rfl rfl hl.1 rfl (Nat.le_of_ble_eq_true rfl) dX3_intFits_5 ⟨Nat.le_of_ble_eq_true rfl, Nat.le_of_ble_eq_true rfl⟩ (fun r_1 u_1 H locs hw_1 hP hD hS => ?_)
  have hP : va_P (dC, dI) vwCl ((wK cA k0 r0 v0) ++ (wR cA r0 r1 r2 r3 r4 r5 r6 row rs tg st ln pa nd ar lv of) ++ (wW cA v0 v1 v2 bt wz op dp)) H := hP.sub [0, 4, 5, 6, 7, 8, 9, 10, 1, 2, 3] rfl
  have hD : va_D A ((wK cA k0 r0 v0) ++ (wR cA r0 r1 r2 r3 r4 r5 r6 row rs tg st ln pa nd ar lv of) ++ (wW cA v0 v1 v2 bt wz op dp)) := hD.sub [0, 4, 5, 6, 7, 8, 9, 10, 1, 2, 3] (by decide) rfl
  have hw_1 : r_1 = if isSm nd tg ln node then 1 else 0 := hw_1
  have hw_1 := hw_1.symm
  subst hw_1
  have hP9 : va_P (dC, dI) vwCl (vX3_intFits cA k0 r0 v0 r1 r2 r3 r4 r5 r6 row rs tg st ln pa nd ar lv of v1 v2 bt wz op dp node ()) _ := hP
  have hD9 : va_D A (vX3_intFits cA k0 r0 v0 r1 r2 r3 r4 r5 r6 row rs tg st ln pa nd ar lv of v1 v2 bt wz op dp node ()) := hD
  have hq9 : pX3_intFits k0 r0 v0 r1 r2 r3 r4 r5 r6 row rs tg st ln pa nd ar lv of v1 v2 bt wz op dp node ((if isSm nd tg ln node then 1 else 0)) () := rfl
  exact W.zret (v := (if isSm nd tg ln node then 1 else 0)) hx hb hr (z_narrow _) (fun t ht hW => ⟨⟨(if isSm nd tg ln node then 1 else 0), (), rfl, hq9, by rw [ht]; exact hP9, va_K.moved hW.alike hK, hD9⟩, hS.F ht⟩) hS.2.2 dX3_intFits_8
abbrev pX3_intValue (k0 : Nat) (r0 : Nat) (v0 : Nat) (r1 : Nat) (r2 : Nat) (r3 : Nat) (r4 : Nat) (r5 : Nat) (r6 : Nat) (row : Nat → Nat) (rs : Nat) (tg : Nat → Nat) (st : Nat → Nat) (ln : Nat → Nat) (pa : Nat → Int32) (nd : Nat) (ar : Nat → Nat) (lv : Nat) (of : Int32) (v1 : Nat) (v2 : Nat) (bt : Nat → Nat) (wz : Nat) (op : Nat → Nat) (dp : Nat) (node : Int32) : Int32 → Unit → Prop := fun (r : Int32) (u : Unit) => r = if isSm nd tg ln node then siVal row (st node.toNatClampNeg) (ln node.toNatClampNeg) else 0
abbrev vX3_intValue (cA : ClassId) (k0 : Nat) (r0 : Nat) (v0 : Nat) (r1 : Nat) (r2 : Nat) (r3 : Nat) (r4 : Nat) (r5 : Nat) (r6 : Nat) (row : Nat → Nat) (rs : Nat) (tg : Nat → Nat) (st : Nat → Nat) (ln : Nat → Nat) (pa : Nat → Int32) (nd : Nat) (ar : Nat → Nat) (lv : Nat) (of : Int32) (v1 : Nat) (v2 : Nat) (bt : Nat → Nat) (wz : Nat) (op : Nat → Nat) (dp : Nat) (node : Int32) : Unit → va_W := fun (u : Unit) => (wK cA k0 r0 v0) ++ (wR cA r0 r1 r2 r3 r4 r5 r6 row rs tg st ln pa nd ar lv of) ++ (wW cA v0 v1 v2 bt wz op dp)
abbrev qX3_intValue (dC : Nat → ClassId) (dI : Nat → Nat → Nat) (cA : ClassId) (A : Nat → Prop) (k0 : Nat) (r0 : Nat) (v0 : Nat) (r1 : Nat) (r2 : Nat) (r3 : Nat) (r4 : Nat) (r5 : Nat) (r6 : Nat) (row : Nat → Nat) (rs : Nat) (tg : Nat → Nat) (st : Nat → Nat) (ln : Nat → Nat) (pa : Nat → Int32) (nd : Nat) (ar : Nat → Nat) (lv : Nat) (of : Int32) (v1 : Nat) (v2 : Nat) (bt : Nat → Nat) (wz : Nat) (op : Nat → Nat) (dp : Nat) (node : Int32) : Array Value → State → Outcome → State → Prop := va_Qi (pX3_intValue k0 r0 v0 r1 r2 r3 r4 r5 r6 row rs tg st ln pa nd ar lv of v1 v2 bt wz op dp node) (fun u => cAft dC dI cA A (vX3_intValue cA k0 r0 v0 r1 r2 r3 r4 r5 r6 row rs tg st ln pa nd ar lv of v1 v2 bt wz op dp node u)) A
set_option maxHeartbeats 4000000 in
set_option maxRecDepth 100000 in
theorem k_X3_intValue (l : Launch) (dC : Nat → ClassId) (dI : Nat → Nat → Nat) (cA : ClassId) (k0 : Nat) (r0 : Nat) (v0 : Nat) (r1 : Nat) (r2 : Nat) (r3 : Nat) (r4 : Nat) (r5 : Nat) (r6 : Nat) (row : Nat → Nat) (rs : Nat) (tg : Nat → Nat) (st : Nat → Nat) (ln : Nat → Nat) (pa : Nat → Int32) (nd : Nat) (ar : Nat → Nat) (lv : Nat) (of : Int32) (v1 : Nat) (v2 : Nat) (bt : Nat → Nat) (wz : Nat) (op : Nat → Nat) (dp : Nat) (node : Int32) (sz : Nat) (hnd : nd ≤ 64) (hrow : ∀ j, row j < 256) (htg : ∀ j, tg j < 256) (hln : ∀ j, ln j < 65536) (hse : ∀ j, j < nd → st j + ln j ≤ 300) : Met l yX3_intValue wsX3_intValue ({ frames := 3, cells := 0, slots := 0, locals := 64 } : Room) (va_Pc [.ref k0, .int node] (fun U => cPre dC dI cA ((wK cA k0 r0 v0) ++ (wR cA r0 r1 r2 r3 r4 r5 r6 row rs tg st ln pa nd ar lv of) ++ (wW cA v0 v1 v2 bt wz op dp)) sz U ∧ nestP U)) (qX3_intValue dC dI cA (va_A ((wK cA k0 r0 v0) ++ (wR cA r0 r1 r2 r3 r4 r5 r6 row rs tg st ln pa nd ar lv of) ++ (wW cA v0 v1 v2 bt wz op dp)) sz) k0 r0 v0 r1 r2 r3 r4 r5 r6 row rs tg st ln pa nd ar lv of v1 v2 bt wz op dp node) 0 0 (va_A ((wK cA k0 r0 v0) ++ (wR cA r0 r1 r2 r3 r4 r5 r6 row rs tg st ln pa nd ar lv of) ++ (wW cA v0 v1 v2 bt wz op dp)) sz) := by
  refine Met.ofW (cc := cX3_intValue) (maxL := 2) (ret := (some .int)) (by decide) rfl ?_
  intro p e s m args below meth c s₁ B hml hv
  obtain ⟨rfl, ⟨hsz, hP, hK, hD0⟩, hN⟩ := hv
  have hx := B.exec
  have hb := B.bytes
  have hr := B.returns
  have hts := atoms_spec (ws := wsX3_intValue) B.pre
  have hown : s.vm.findClass RX3 = some m.cls := findClass_of_methodNamed B.named
  have hlocks := B.notSynchronized
  subst hsz
  have hD := hD0.self (sz := s.heap.size)
  generalize hAe : va_A ((wK cA k0 r0 v0) ++ (wR cA r0 r1 r2 r3 r4 r5 r6 row rs tg st ln pa nd ar lv of) ++ (wW cA v0 v1 v2 bt wz op dp)) s.heap.size = A at hD ⊢
  have hA : ∀ q : Nat, s.heap.size ≤ q → A q := fun q h => by rw [← hAe]; exact Or.inr h
  have hS : va_S A s.heap s.heap [] := va_S.rf
  have hl := lv_entry ([.ref k0, .int node]) (n := 2) (Nat.le_of_ble_eq_true rfl)
  rw [lg_entry_eq]
  generalize (lg_sl ([.ref k0, .int node]) ++ List.replicate (2 - (lg_sl ([.ref k0, .int node])).length) Slot.unset).toArray = ls at hl ⊢
  have hl : lv_has ls 2 [(0, .ref k0), (1, .int node)] := hl
  have hinX3 : ∀ w ∈ wsX30, w ∈ wsX3_intValue := fun _ h => List.mem_cons_of_mem _ (List.mem_append_left _ (List.mem_append_right _ h))
  have hinX0 : ∀ w ∈ wsX00, w ∈ wsX3_intValue := fun _ h => List.mem_cons_of_mem _ (List.mem_append_right _ h)
  have hf_10 := hts (.fieldLink RX3 10 "DerDesk" "reader" "LDerDesk$Reader;") (by decide +kernel)
  have hP : va_P (dC, dI) vwCl ((wK cA k0 r0 v0) ++ (wR cA r0 r1 r2 r3 r4 r5 r6 row rs tg st ln pa nd ar lv of) ++ (wW cA v0 v1 v2 bt wz op dp)) s.heap := hP
  refine lv_aload_n hx hb dX3_intValue_0 rfl (lv_at hl 0 rfl) ?_
  refine va_get (D := (dC, dI)) (ci := 2) (v := .ref r0) (C := RX3) (T := TX3) (N := 2) hx hb hts hinX3 hown hK hP 0 rfl rfl 0 (by decide) hf_10 (fun _ h9 => h9) rfl dX3_intValue_1 ?_
  refine lv_iload_n hx hb dX3_intValue_4 rfl (lv_at hl 1 rfl) ?_
  refine cl_Vi (As := [.int node]) (rest := []) (wr := [(k0, .inr (2, [.ref r0, .ref v0])), (v0, .inr (1, [.ref v1, .int (nI wz), .ref v2, .int (nI dp)])), (v1, .inl (cA, 300, .inl (nA bt))), (v2, .inl (cA, 16, .inl (nA op)))]) ⟨hx, hb, hml, hown, hts⟩ (k_X0_smallInteger l dC dI cA r0 r1 r2 r3 r4 r5 r6 row rs tg st ln pa nd ar lv of node _ hnd hrow htg hln hse) (cwV 1 hts gX3_intValue_X0_smallInteger rfl rfl rfl (by decide +kernel) ⟨Nat.le_of_ble_eq_true rfl, Nat.le_of_ble_eq_true rfl⟩) hK hP hD hS hA [1, 2, 3, 4, 5, 6, 7] [0, 8, 9, 10] rfl rfl (by decide) (by decide) (by decide) (ci := 0) (q0 := 0) rfl rfl rfl rfl hl.1 rfl (Nat.le_of_ble_eq_true rfl) dX3_intValue_5 ⟨Nat.le_of_ble_eq_true rfl, Nat.le_of_ble_eq_true rfl⟩ (fun r_1 u_1 H locs hw_1 hP hD hS => ?_)
  have hP : va_P (dC, dI) vwCl ((wK cA k0 r0 v0) ++ (wR cA r0 r1 r2 r3 r4 r5 r6 row rs tg st ln pa nd ar lv of) ++ (wW cA v0 v1 v2 bt wz op dp)) H := hP.sub [0, 4, 5, 6, 7, 8, 9, 10, 1, 2, 3] rfl
  have hD : va_D A ((wK cA k0 r0 v0) ++ (wR cA r0 r1 r2 r3 r4 r5 r6 row rs tg st ln pa nd ar lv of) ++ (wW cA v0 v1 v2 bt wz op dp)) := hD.sub [0, 4, 5, 6, 7, 8, 9, 10, 1, 2, 3] (by decide) rfl
  have hw_1 : r_1 = if isSm nd tg ln node then siVal row (st node.toNatClampNeg) (ln node.toNatClampNeg) else 0 := hw_1
  have hP9 : va_P (dC, dI) vwCl (vX3_intValue cA k0 r0 v0 r1 r2 r3 r4 r5 r6 row rs tg st ln pa nd ar lv of v1 v2 bt wz op dp node ()) _ := hP
  have hD9 : va_D A (vX3_intValue cA k0 r0 v0 r1 r2 r3 r4 r5 r6 row rs tg st ln pa nd ar lv of v1 v2 bt wz op dp node ()) := hD
  have hq9 : pX3_intValue k0 r0 v0 r1 r2 r3 r4 r5 r6 row rs tg st ln pa nd ar lv of v1 v2 bt wz op dp node (r_1) () := hw_1
  exact W.iret (v := r_1) hx hb hr (fun t ht hW => ⟨⟨r_1, (), rfl, hq9, by rw [ht]; exact hP9, va_K.moved hW.alike hK, hD9⟩, hS.F ht⟩) hS.2.2 dX3_intValue_8
abbrev pX3_wipe (k0 : Nat) (r0 : Nat) (v0 : Nat) (r1 : Nat) (r2 : Nat) (r3 : Nat) (r4 : Nat) (r5 : Nat) (r6 : Nat) (row : Nat → Nat) (rs : Nat) (tg : Nat → Nat) (st : Nat → Nat) (ln : Nat → Nat) (pa : Nat → Int32) (nd : Nat) (ar : Nat → Nat) (lv : Nat) (of : Int32) (v1 : Nat) (v2 : Nat) (bt : Nat → Nat) (wz : Nat) (op : Nat → Nat) (dp : Nat) : Nat × Nat → Prop := fun (u : Nat × Nat) => match u with | (rs2, nd2) => rs2 = 0 ∧ nd2 = 0
abbrev vX3_wipe (cA : ClassId) (k0 : Nat) (r0 : Nat) (v0 : Nat) (r1 : Nat) (r2 : Nat) (r3 : Nat) (r4 : Nat) (r5 : Nat) (r6 : Nat) (row : Nat → Nat) (rs : Nat) (tg : Nat → Nat) (st : Nat → Nat) (ln : Nat → Nat) (pa : Nat → Int32) (nd : Nat) (ar : Nat → Nat) (lv : Nat) (of : Int32) (v1 : Nat) (v2 : Nat) (bt : Nat → Nat) (wz : Nat) (op : Nat → Nat) (dp : Nat) : Nat × Nat → va_W := fun (u : Nat × Nat) => match u with | (rs2, nd2) => (wK cA k0 r0 v0) ++ (wR cA r0 r1 r2 r3 r4 r5 r6 row rs2 tg st ln pa nd2 ar lv of) ++ (wW cA v0 v1 v2 bt wz op dp)
abbrev qX3_wipe (dC : Nat → ClassId) (dI : Nat → Nat → Nat) (cA : ClassId) (A : Nat → Prop) (k0 : Nat) (r0 : Nat) (v0 : Nat) (r1 : Nat) (r2 : Nat) (r3 : Nat) (r4 : Nat) (r5 : Nat) (r6 : Nat) (row : Nat → Nat) (rs : Nat) (tg : Nat → Nat) (st : Nat → Nat) (ln : Nat → Nat) (pa : Nat → Int32) (nd : Nat) (ar : Nat → Nat) (lv : Nat) (of : Int32) (v1 : Nat) (v2 : Nat) (bt : Nat → Nat) (wz : Nat) (op : Nat → Nat) (dp : Nat) : Array Value → State → Outcome → State → Prop := va_Qv (pX3_wipe k0 r0 v0 r1 r2 r3 r4 r5 r6 row rs tg st ln pa nd ar lv of v1 v2 bt wz op dp) (fun u => cAft dC dI cA A (vX3_wipe cA k0 r0 v0 r1 r2 r3 r4 r5 r6 row rs tg st ln pa nd ar lv of v1 v2 bt wz op dp u)) A
set_option maxHeartbeats 4000000 in
set_option maxRecDepth 100000 in
theorem k_X3_wipe (l : Launch) (dC : Nat → ClassId) (dI : Nat → Nat → Nat) (cA : ClassId) (k0 : Nat) (r0 : Nat) (v0 : Nat) (r1 : Nat) (r2 : Nat) (r3 : Nat) (r4 : Nat) (r5 : Nat) (r6 : Nat) (row : Nat → Nat) (rs : Nat) (tg : Nat → Nat) (st : Nat → Nat) (ln : Nat → Nat) (pa : Nat → Int32) (nd : Nat) (ar : Nat → Nat) (lv : Nat) (of : Int32) (v1 : Nat) (v2 : Nat) (bt : Nat → Nat) (wz : Nat) (op : Nat → Nat) (dp : Nat) (sz : Nat)  : Met l yX3_wipe wsX3_wipe ({ frames := 1, cells := 0, slots := 0, locals := 20 } : Room) (va_Pc [.ref k0] (fun U => cPre dC dI cA ((wK cA k0 r0 v0) ++ (wR cA r0 r1 r2 r3 r4 r5 r6 row rs tg st ln pa nd ar lv of) ++ (wW cA v0 v1 v2 bt wz op dp)) sz U ∧ nestP U)) (qX3_wipe dC dI cA (va_A ((wK cA k0 r0 v0) ++ (wR cA r0 r1 r2 r3 r4 r5 r6 row rs tg st ln pa nd ar lv of) ++ (wW cA v0 v1 v2 bt wz op dp)) sz) k0 r0 v0 r1 r2 r3 r4 r5 r6 row rs tg st ln pa nd ar lv of v1 v2 bt wz op dp) 0 0 (va_A ((wK cA k0 r0 v0) ++ (wR cA r0 r1 r2 r3 r4 r5 r6 row rs tg st ln pa nd ar lv of) ++ (wW cA v0 v1 v2 bt wz op dp)) sz) := by
  refine Met.ofW (cc := cX3_wipe) (maxL := 1) (ret := none) (by decide) rfl ?_
  intro p e s m args below meth c s₁ B hml hv
  obtain ⟨rfl, ⟨hsz, hP, hK, hD0⟩, hN⟩ := hv
  have hx := B.exec
  have hb := B.bytes
  have hr := B.returns
  have hts := atoms_spec (ws := wsX3_wipe) B.pre
  have hown : s.vm.findClass RX3 = some m.cls := findClass_of_methodNamed B.named
  have hlocks := B.notSynchronized
  subst hsz
  have hD := hD0.self (sz := s.heap.size)
  generalize hAe : va_A ((wK cA k0 r0 v0) ++ (wR cA r0 r1 r2 r3 r4 r5 r6 row rs tg st ln pa nd ar lv of) ++ (wW cA v0 v1 v2 bt wz op dp)) s.heap.size = A at hD ⊢
  have hA : ∀ q : Nat, s.heap.size ≤ q → A q := fun q h => by rw [← hAe]; exact Or.inr h
  have hS : va_S A s.heap s.heap [] := va_S.rf
  have hl := lv_entry ([.ref k0]) (n := 1) (Nat.le_of_ble_eq_true rfl)
  rw [lg_entry_eq]
  generalize (lg_sl ([.ref k0]) ++ List.replicate (1 - (lg_sl ([.ref k0])).length) Slot.unset).toArray = ls at hl ⊢
  have hl : lv_has ls 1 [(0, .ref k0)] := hl
  have hinX3 : ∀ w ∈ wsX30, w ∈ wsX3_wipe := fun _ h => List.mem_cons_of_mem _ (List.mem_append_left _ (List.mem_append_right _ h))
  have hinX0 : ∀ w ∈ wsX00, w ∈ wsX3_wipe := fun _ h => List.mem_cons_of_mem _ (List.mem_append_right _ h)
  have hf_10 := hts (.fieldLink RX3 10 "DerDesk" "reader" "LDerDesk$Reader;") (by decide +kernel)
  have hP : va_P (dC, dI) vwCl ((wK cA k0 r0 v0) ++ (wR cA r0 r1 r2 r3 r4 r5 r6 row rs tg st ln pa nd ar lv of) ++ (wW cA v0 v1 v2 bt wz op dp)) s.heap := hP
  refine lv_aload_n hx hb dX3_wipe_0 rfl (lv_at hl 0 rfl) ?_
  refine va_get (D := (dC, dI)) (ci := 2) (v := .ref r0) (C := RX3) (T := TX3) (N := 2) hx hb hts hinX3 hown hK hP 0 rfl rfl 0 (by decide) hf_10 (fun _ h9 => h9) rfl dX3_wipe_1 ?_
  refine cl_Vv (As := []) (rest := []) (wr := [(k0, .inr (2, [.ref r0, .ref v0])), (v0, .inr (1, [.ref v1, .int (nI wz), .ref v2, .int (nI dp)])), (v1, .inl (cA, 300, .inl (nA bt))), (v2, .inl (cA, 16, .inl (nA op)))]) ⟨hx, hb, hml, hown, hts⟩ (k_X0_clear l dC dI cA r0 r1 r2 r3 r4 r5 r6 row rs tg st ln pa nd ar lv of _ ) (cwV 0 hts gX3_wipe_X0_clear rfl rfl rfl (by decide +kernel) ⟨Nat.le_of_ble_eq_true rfl, Nat.le_of_ble_eq_true rfl⟩) hK hP hD hS hA [1, 2, 3, 4, 5, 6, 7] [0, 8, 9, 10] rfl rfl (by decide) (by decide) (by decide) (ci := 0) (q0 := 0) rfl rfl rfl rfl hl.1 rfl (Nat.le_of_ble_eq_true rfl) dX3_wipe_4 ⟨Nat.le_of_ble_eq_true rfl, Nat.le_of_ble_eq_true rfl⟩ (fun u_1 H locs hw_1 hP hD hS => ?_)
  obtain ⟨rs2_1, nd2_1⟩ := u_1
  have hP : va_P (dC, dI) vwCl ((wK cA k0 r0 v0) ++ (wR cA r0 r1 r2 r3 r4 r5 r6 row rs2_1 tg st ln pa nd2_1 ar lv of) ++ (wW cA v0 v1 v2 bt wz op dp)) H := hP.sub [0, 4, 5, 6, 7, 8, 9, 10, 1, 2, 3] rfl
  have hD : va_D A ((wK cA k0 r0 v0) ++ (wR cA r0 r1 r2 r3 r4 r5 r6 row rs2_1 tg st ln pa nd2_1 ar lv of) ++ (wW cA v0 v1 v2 bt wz op dp)) := hD.sub [0, 4, 5, 6, 7, 8, 9, 10, 1, 2, 3] (by decide) rfl
  have hw_1 : rs2_1 = 0 ∧ nd2_1 = 0 := hw_1
  have hP9 : va_P (dC, dI) vwCl (vX3_wipe cA k0 r0 v0 r1 r2 r3 r4 r5 r6 row rs tg st ln pa nd ar lv of v1 v2 bt wz op dp (rs2_1, nd2_1)) _ := hP
  have hD9 : va_D A (vX3_wipe cA k0 r0 v0 r1 r2 r3 r4 r5 r6 row rs tg st ln pa nd ar lv of v1 v2 bt wz op dp (rs2_1, nd2_1)) := hD
  have hq9 : pX3_wipe k0 r0 v0 r1 r2 r3 r4 r5 r6 row rs tg st ln pa nd ar lv of v1 v2 bt wz op dp (rs2_1, nd2_1) := hw_1
  exact W.vret hx hb hr (fun t ht hW => ⟨⟨(rs2_1, nd2_1), rfl, hq9, by rw [ht]; exact hP9, va_K.moved hW.alike hK, hD9⟩, hS.F ht⟩) hS.2.2 dX3_wipe_7
abbrev pX3_begin (k0 : Nat) (r0 : Nat) (v0 : Nat) (r1 : Nat) (r2 : Nat) (r3 : Nat) (r4 : Nat) (r5 : Nat) (r6 : Nat) (row : Nat → Nat) (rs : Nat) (tg : Nat → Nat) (st : Nat → Nat) (ln : Nat → Nat) (pa : Nat → Int32) (nd : Nat) (ar : Nat → Nat) (lv : Nat) (of : Int32) (v1 : Nat) (v2 : Nat) (bt : Nat → Nat) (wz : Nat) (op : Nat → Nat) (dp : Nat) (tag : Int32) : Int32 → (Nat → Nat) × Nat × (Nat → Nat) × Nat → Prop := fun (r : Int32) (u : (Nat → Nat) × Nat × (Nat → Nat) × Nat) => match u with | (bt2, wz2, op2, dp2) => r = begC tag dp wz bt op ∧ ((begC tag dp wz bt op = 0 ∧ isId tag ∧ canH dp wz bt op ∧ dp < 16 ∧ wz < 300 ∧ bt2 = va_up bt wz tag.toNatClampNeg ∧ wz2 = wz + 1 ∧ op2 = va_up op dp wz ∧ dp2 = dp + 1) ∨ (begC tag dp wz bt op ≠ 0 ∧ bt2 = bt ∧ wz2 = wz ∧ op2 = op ∧ dp2 = dp))
abbrev vX3_begin (cA : ClassId) (k0 : Nat) (r0 : Nat) (v0 : Nat) (r1 : Nat) (r2 : Nat) (r3 : Nat) (r4 : Nat) (r5 : Nat) (r6 : Nat) (row : Nat → Nat) (rs : Nat) (tg : Nat → Nat) (st : Nat → Nat) (ln : Nat → Nat) (pa : Nat → Int32) (nd : Nat) (ar : Nat → Nat) (lv : Nat) (of : Int32) (v1 : Nat) (v2 : Nat) (bt : Nat → Nat) (wz : Nat) (op : Nat → Nat) (dp : Nat) (tag : Int32) : (Nat → Nat) × Nat × (Nat → Nat) × Nat → va_W := fun (u : (Nat → Nat) × Nat × (Nat → Nat) × Nat) => match u with | (bt2, wz2, op2, dp2) => (wK cA k0 r0 v0) ++ (wR cA r0 r1 r2 r3 r4 r5 r6 row rs tg st ln pa nd ar lv of) ++ (wW cA v0 v1 v2 bt2 wz2 op2 dp2)
abbrev qX3_begin (dC : Nat → ClassId) (dI : Nat → Nat → Nat) (cA : ClassId) (A : Nat → Prop) (k0 : Nat) (r0 : Nat) (v0 : Nat) (r1 : Nat) (r2 : Nat) (r3 : Nat) (r4 : Nat) (r5 : Nat) (r6 : Nat) (row : Nat → Nat) (rs : Nat) (tg : Nat → Nat) (st : Nat → Nat) (ln : Nat → Nat) (pa : Nat → Int32) (nd : Nat) (ar : Nat → Nat) (lv : Nat) (of : Int32) (v1 : Nat) (v2 : Nat) (bt : Nat → Nat) (wz : Nat) (op : Nat → Nat) (dp : Nat) (tag : Int32) : Array Value → State → Outcome → State → Prop := va_Qi (pX3_begin k0 r0 v0 r1 r2 r3 r4 r5 r6 row rs tg st ln pa nd ar lv of v1 v2 bt wz op dp tag) (fun u => cAft dC dI cA A (vX3_begin cA k0 r0 v0 r1 r2 r3 r4 r5 r6 row rs tg st ln pa nd ar lv of v1 v2 bt wz op dp tag u)) A
set_option maxHeartbeats 4000000 in
set_option maxRecDepth 100000 in
theorem k_X3_begin (l : Launch) (dC : Nat → ClassId) (dI : Nat → Nat → Nat) (cA : ClassId) (k0 : Nat) (r0 : Nat) (v0 : Nat) (r1 : Nat) (r2 : Nat) (r3 : Nat) (r4 : Nat) (r5 : Nat) (r6 : Nat) (row : Nat → Nat) (rs : Nat) (tg : Nat → Nat) (st : Nat → Nat) (ln : Nat → Nat) (pa : Nat → Int32) (nd : Nat) (ar : Nat → Nat) (lv : Nat) (of : Int32) (v1 : Nat) (v2 : Nat) (bt : Nat → Nat) (wz : Nat) (op : Nat → Nat) (dp : Nat) (tag : Int32) (sz : Nat) (hbt : ∀ j, bt j < 256) (hwz : wz ≤ 300) (hdp : dp ≤ 16) (hop : ∀ j, j < dp → op j < wz) : Met l yX3_begin wsX3_begin ({ frames := 3, cells := 0, slots := 0, locals := 61 } : Room) (va_Pc [.ref k0, .int tag] (fun U => cPre dC dI cA ((wK cA k0 r0 v0) ++ (wR cA r0 r1 r2 r3 r4 r5 r6 row rs tg st ln pa nd ar lv of) ++ (wW cA v0 v1 v2 bt wz op dp)) sz U ∧ nestP U)) (qX3_begin dC dI cA (va_A ((wK cA k0 r0 v0) ++ (wR cA r0 r1 r2 r3 r4 r5 r6 row rs tg st ln pa nd ar lv of) ++ (wW cA v0 v1 v2 bt wz op dp)) sz) k0 r0 v0 r1 r2 r3 r4 r5 r6 row rs tg st ln pa nd ar lv of v1 v2 bt wz op dp tag) 0 0 (va_A ((wK cA k0 r0 v0) ++ (wR cA r0 r1 r2 r3 r4 r5 r6 row rs tg st ln pa nd ar lv of) ++ (wW cA v0 v1 v2 bt wz op dp)) sz) := by
  refine Met.ofW (cc := cX3_begin) (maxL := 2) (ret := (some .int)) (by decide) rfl ?_
  intro p e s m args below meth c s₁ B hml hv
  obtain ⟨rfl, ⟨hsz, hP, hK, hD0⟩, hN⟩ := hv
  have hx := B.exec
  have hb := B.bytes
  have hr := B.returns
  have hts := atoms_spec (ws := wsX3_begin) B.pre
  have hown : s.vm.findClass RX3 = some m.cls := findClass_of_methodNamed B.named
  have hlocks := B.notSynchronized
  subst hsz
  have hD := hD0.self (sz := s.heap.size)
  generalize hAe : va_A ((wK cA k0 r0 v0) ++ (wR cA r0 r1 r2 r3 r4 r5 r6 row rs tg st ln pa nd ar lv of) ++ (wW cA v0 v1 v2 bt wz op dp)) s.heap.size = A at hD ⊢
  have hA : ∀ q : Nat, s.heap.size ≤ q → A q := fun q h => by rw [← hAe]; exact Or.inr h
  have hS : va_S A s.heap s.heap [] := va_S.rf
  have hl := lv_entry ([.ref k0, .int tag]) (n := 2) (Nat.le_of_ble_eq_true rfl)
  rw [lg_entry_eq]
  generalize (lg_sl ([.ref k0, .int tag]) ++ List.replicate (2 - (lg_sl ([.ref k0, .int tag])).length) Slot.unset).toArray = ls at hl ⊢
  have hl : lv_has ls 2 [(0, .ref k0), (1, .int tag)] := hl
  have hinX3 : ∀ w ∈ wsX30, w ∈ wsX3_begin := fun _ h => List.mem_cons_of_mem _ (List.mem_append_left _ (List.mem_append_right _ h))
  have hinX2 : ∀ w ∈ wsX20, w ∈ wsX3_begin := fun _ h => List.mem_cons_of_mem _ (List.mem_append_right _ h)
  have hf_19 := hts (.fieldLink RX3 19 "DerDesk" "writer" "LDerDesk$Writer;") (by decide +kernel)
  have hP : va_P (dC, dI) vwCl ((wK cA k0 r0 v0) ++ (wR cA r0 r1 r2 r3 r4 r5 r6 row rs tg st ln pa nd ar lv of) ++ (wW cA v0 v1 v2 bt wz op dp)) s.heap := hP
  refine lv_aload_n hx hb dX3_begin_0 rfl (lv_at hl 0 rfl) ?_
  refine va_get (D := (dC, dI)) (ci := 2) (v := .ref v0) (C := RX3) (T := TX3) (N := 2) hx hb hts hinX3 hown hK hP 0 rfl rfl 1 (by decide) hf_19 (fun _ h9 => h9) rfl dX3_begin_1 ?_
  refine lv_iload_n hx hb dX3_begin_4 rfl (lv_at hl 1 rfl) ?_
  refine cl_Vi (As := [.int tag]) (rest := []) (wr := [(k0, .inr (2, [.ref r0, .ref v0])), (r0, .inr (0, [.ref r1, .int (nI rs), .ref r2, .ref r3, .ref r4, .ref r5, .int (nI nd), .ref r6, .int (nI lv), .int of])), (r1, .inl (cA, 300, .inl (nA row))), (r2, .inl (cA, 64, .inl (nA tg))), (r3, .inl (cA, 64, .inl (nA st))), (r4, .inl (cA, 64, .inl (nA ln))), (r5, .inl (cA, 64, .inl (pa))), (r6, .inl (cA, 16, .inl (nA ar)))]) ⟨hx, hb, hml, hown, hts⟩ (k_X2_open l dC dI cA v0 v1 v2 bt wz op dp tag _ hbt hwz hdp hop) (cwV 1 hts gX3_begin_X2_open rfl rfl rfl (by decide +kernel) ⟨Nat.le_of_ble_eq_true rfl, Nat.le_of_ble_eq_true rfl⟩) hK hP hD hS hA [8, 9, 10] [0, 1, 2, 3, 4, 5, 6, 7] rfl rfl (by decide) (by decide) (by decide) (ci := 1) (q0 := 0) rfl rfl rfl rfl hl.1 rfl (Nat.le_of_ble_eq_true rfl) dX3_begin_5 ⟨Nat.le_of_ble_eq_true rfl, Nat.le_of_ble_eq_true rfl⟩ (fun r_1 u_1 H locs hw_1 hP hD hS => ?_)
  obtain ⟨bt2_1, wz2_1, op2_1, dp2_1⟩ := u_1
  have hP : va_P (dC, dI) vwCl ((wK cA k0 r0 v0) ++ (wR cA r0 r1 r2 r3 r4 r5 r6 row rs tg st ln pa nd ar lv of) ++ (wW cA v0 v1 v2 bt2_1 wz2_1 op2_1 dp2_1)) H := hP
  have hD : va_D A ((wK cA k0 r0 v0) ++ (wR cA r0 r1 r2 r3 r4 r5 r6 row rs tg st ln pa nd ar lv of) ++ (wW cA v0 v1 v2 bt2_1 wz2_1 op2_1 dp2_1)) := hD
  have hw_1 : r_1 = begC tag dp wz bt op ∧ ((begC tag dp wz bt op = 0 ∧ isId tag ∧ canH dp wz bt op ∧ dp < 16 ∧ wz < 300 ∧ bt2_1 = va_up bt wz tag.toNatClampNeg ∧ wz2_1 = wz + 1 ∧ op2_1 = va_up op dp wz ∧ dp2_1 = dp + 1) ∨ (begC tag dp wz bt op ≠ 0 ∧ bt2_1 = bt ∧ wz2_1 = wz ∧ op2_1 = op ∧ dp2_1 = dp)) := hw_1
  have hP9 : va_P (dC, dI) vwCl (vX3_begin cA k0 r0 v0 r1 r2 r3 r4 r5 r6 row rs tg st ln pa nd ar lv of v1 v2 bt wz op dp tag (bt2_1, wz2_1, op2_1, dp2_1)) _ := hP
  have hD9 : va_D A (vX3_begin cA k0 r0 v0 r1 r2 r3 r4 r5 r6 row rs tg st ln pa nd ar lv of v1 v2 bt wz op dp tag (bt2_1, wz2_1, op2_1, dp2_1)) := hD
  have hq9 : pX3_begin k0 r0 v0 r1 r2 r3 r4 r5 r6 row rs tg st ln pa nd ar lv of v1 v2 bt wz op dp tag (r_1) (bt2_1, wz2_1, op2_1, dp2_1) := hw_1
  exact W.iret (v := r_1) hx hb hr (fun t ht hW => ⟨⟨r_1, (bt2_1, wz2_1, op2_1, dp2_1), rfl, hq9, by rw [ht]; exact hP9, va_K.moved hW.alike hK, hD9⟩, hS.F ht⟩) hS.2.2 dX3_begin_8
abbrev pX3_putByte (k0 : Nat) (r0 : Nat) (v0 : Nat) (r1 : Nat) (r2 : Nat) (r3 : Nat) (r4 : Nat) (r5 : Nat) (r6 : Nat) (row : Nat → Nat) (rs : Nat) (tg : Nat → Nat) (st : Nat → Nat) (ln : Nat → Nat) (pa : Nat → Int32) (nd : Nat) (ar : Nat → Nat) (lv : Nat) (of : Int32) (v1 : Nat) (v2 : Nat) (bt : Nat → Nat) (wz : Nat) (op : Nat → Nat) (dp : Nat) (b : Int32) : Int32 → (Nat → Nat) × Nat → Prop := fun (r : Int32) (u : (Nat → Nat) × Nat) => match u with | (bt2, wz2) => r = pbC b dp wz bt op ∧ ((pbC b dp wz bt op = 0 ∧ isB b ∧ wz < 300 ∧ bt2 = va_up bt wz b.toNatClampNeg ∧ wz2 = wz + 1) ∨ (pbC b dp wz bt op ≠ 0 ∧ bt2 = bt ∧ wz2 = wz))
abbrev vX3_putByte (cA : ClassId) (k0 : Nat) (r0 : Nat) (v0 : Nat) (r1 : Nat) (r2 : Nat) (r3 : Nat) (r4 : Nat) (r5 : Nat) (r6 : Nat) (row : Nat → Nat) (rs : Nat) (tg : Nat → Nat) (st : Nat → Nat) (ln : Nat → Nat) (pa : Nat → Int32) (nd : Nat) (ar : Nat → Nat) (lv : Nat) (of : Int32) (v1 : Nat) (v2 : Nat) (bt : Nat → Nat) (wz : Nat) (op : Nat → Nat) (dp : Nat) (b : Int32) : (Nat → Nat) × Nat → va_W := fun (u : (Nat → Nat) × Nat) => match u with | (bt2, wz2) => (wK cA k0 r0 v0) ++ (wR cA r0 r1 r2 r3 r4 r5 r6 row rs tg st ln pa nd ar lv of) ++ (wW cA v0 v1 v2 bt2 wz2 op dp)
abbrev qX3_putByte (dC : Nat → ClassId) (dI : Nat → Nat → Nat) (cA : ClassId) (A : Nat → Prop) (k0 : Nat) (r0 : Nat) (v0 : Nat) (r1 : Nat) (r2 : Nat) (r3 : Nat) (r4 : Nat) (r5 : Nat) (r6 : Nat) (row : Nat → Nat) (rs : Nat) (tg : Nat → Nat) (st : Nat → Nat) (ln : Nat → Nat) (pa : Nat → Int32) (nd : Nat) (ar : Nat → Nat) (lv : Nat) (of : Int32) (v1 : Nat) (v2 : Nat) (bt : Nat → Nat) (wz : Nat) (op : Nat → Nat) (dp : Nat) (b : Int32) : Array Value → State → Outcome → State → Prop := va_Qi (pX3_putByte k0 r0 v0 r1 r2 r3 r4 r5 r6 row rs tg st ln pa nd ar lv of v1 v2 bt wz op dp b) (fun u => cAft dC dI cA A (vX3_putByte cA k0 r0 v0 r1 r2 r3 r4 r5 r6 row rs tg st ln pa nd ar lv of v1 v2 bt wz op dp b u)) A
set_option maxHeartbeats 4000000 in
set_option maxRecDepth 100000 in
theorem k_X3_putByte (l : Launch) (dC : Nat → ClassId) (dI : Nat → Nat → Nat) (cA : ClassId) (k0 : Nat) (r0 : Nat) (v0 : Nat) (r1 : Nat) (r2 : Nat) (r3 : Nat) (r4 : Nat) (r5 : Nat) (r6 : Nat) (row : Nat → Nat) (rs : Nat) (tg : Nat → Nat) (st : Nat → Nat) (ln : Nat → Nat) (pa : Nat → Int32) (nd : Nat) (ar : Nat → Nat) (lv : Nat) (of : Int32) (v1 : Nat) (v2 : Nat) (bt : Nat → Nat) (wz : Nat) (op : Nat → Nat) (dp : Nat) (b : Int32) (sz : Nat) (hbt : ∀ j, bt j < 256) (hwz : wz ≤ 300) (hdp : dp ≤ 16) (hop : ∀ j, j < dp → op j < wz) : Met l yX3_putByte wsX3_putByte ({ frames := 2, cells := 0, slots := 0, locals := 42 } : Room) (va_Pc [.ref k0, .int b] (fun U => cPre dC dI cA ((wK cA k0 r0 v0) ++ (wR cA r0 r1 r2 r3 r4 r5 r6 row rs tg st ln pa nd ar lv of) ++ (wW cA v0 v1 v2 bt wz op dp)) sz U ∧ nestP U)) (qX3_putByte dC dI cA (va_A ((wK cA k0 r0 v0) ++ (wR cA r0 r1 r2 r3 r4 r5 r6 row rs tg st ln pa nd ar lv of) ++ (wW cA v0 v1 v2 bt wz op dp)) sz) k0 r0 v0 r1 r2 r3 r4 r5 r6 row rs tg st ln pa nd ar lv of v1 v2 bt wz op dp b) 0 0 (va_A ((wK cA k0 r0 v0) ++ (wR cA r0 r1 r2 r3 r4 r5 r6 row rs tg st ln pa nd ar lv of) ++ (wW cA v0 v1 v2 bt wz op dp)) sz) := by
  refine Met.ofW (cc := cX3_putByte) (maxL := 2) (ret := (some .int)) (by decide) rfl ?_
  intro p e s m args below meth c s₁ B hml hv
  obtain ⟨rfl, ⟨hsz, hP, hK, hD0⟩, hN⟩ := hv
  have hx := B.exec
  have hb := B.bytes
  have hr := B.returns
  have hts := atoms_spec (ws := wsX3_putByte) B.pre
  have hown : s.vm.findClass RX3 = some m.cls := findClass_of_methodNamed B.named
  have hlocks := B.notSynchronized
  subst hsz
  have hD := hD0.self (sz := s.heap.size)
  generalize hAe : va_A ((wK cA k0 r0 v0) ++ (wR cA r0 r1 r2 r3 r4 r5 r6 row rs tg st ln pa nd ar lv of) ++ (wW cA v0 v1 v2 bt wz op dp)) s.heap.size = A at hD ⊢
  have hA : ∀ q : Nat, s.heap.size ≤ q → A q := fun q h => by rw [← hAe]; exact Or.inr h
  have hS : va_S A s.heap s.heap [] := va_S.rf
  have hl := lv_entry ([.ref k0, .int b]) (n := 2) (Nat.le_of_ble_eq_true rfl)
  rw [lg_entry_eq]
  generalize (lg_sl ([.ref k0, .int b]) ++ List.replicate (2 - (lg_sl ([.ref k0, .int b])).length) Slot.unset).toArray = ls at hl ⊢
  have hl : lv_has ls 2 [(0, .ref k0), (1, .int b)] := hl
  have hinX3 : ∀ w ∈ wsX30, w ∈ wsX3_putByte := fun _ h => List.mem_cons_of_mem _ (List.mem_append_left _ (List.mem_append_right _ h))
  have hinX2 : ∀ w ∈ wsX20, w ∈ wsX3_putByte := fun _ h => List.mem_cons_of_mem _ (List.mem_append_right _ h)
  have hf_19 := hts (.fieldLink RX3 19 "DerDesk" "writer" "LDerDesk$Writer;") (by decide +kernel)
  have hP : va_P (dC, dI) vwCl ((wK cA k0 r0 v0) ++ (wR cA r0 r1 r2 r3 r4 r5 r6 row rs tg st ln pa nd ar lv of) ++ (wW cA v0 v1 v2 bt wz op dp)) s.heap := hP
  refine lv_aload_n hx hb dX3_putByte_0 rfl (lv_at hl 0 rfl) ?_
  refine va_get (D := (dC, dI)) (ci := 2) (v := .ref v0) (C := RX3) (T := TX3) (N := 2) hx hb hts hinX3 hown hK hP 0 rfl rfl 1 (by decide) hf_19 (fun _ h9 => h9) rfl dX3_putByte_1 ?_
  refine lv_iload_n hx hb dX3_putByte_4 rfl (lv_at hl 1 rfl) ?_
  refine cl_Vi (As := [.int b]) (rest := []) (wr := [(k0, .inr (2, [.ref r0, .ref v0])), (r0, .inr (0, [.ref r1, .int (nI rs), .ref r2, .ref r3, .ref r4, .ref r5, .int (nI nd), .ref r6, .int (nI lv), .int of])), (r1, .inl (cA, 300, .inl (nA row))), (r2, .inl (cA, 64, .inl (nA tg))), (r3, .inl (cA, 64, .inl (nA st))), (r4, .inl (cA, 64, .inl (nA ln))), (r5, .inl (cA, 64, .inl (pa))), (r6, .inl (cA, 16, .inl (nA ar)))]) ⟨hx, hb, hml, hown, hts⟩ (k_X2_addByte l dC dI cA v0 v1 v2 bt wz op dp b _ hbt hwz hdp hop) (cwV 1 hts gX3_putByte_X2_addByte rfl rfl rfl (by decide +kernel) ⟨Nat.le_of_ble_eq_true rfl, Nat.le_of_ble_eq_true rfl⟩) hK hP hD hS hA [8, 9, 10] [0, 1, 2, 3, 4, 5, 6, 7] rfl rfl (by decide) (by decide) (by decide) (ci := 1) (q0 := 0) rfl rfl rfl rfl hl.1 rfl (Nat.le_of_ble_eq_true rfl) dX3_putByte_5 ⟨Nat.le_of_ble_eq_true rfl, Nat.le_of_ble_eq_true rfl⟩ (fun r_1 u_1 H locs hw_1 hP hD hS => ?_)
  obtain ⟨bt2_1, wz2_1⟩ := u_1
  have hP : va_P (dC, dI) vwCl ((wK cA k0 r0 v0) ++ (wR cA r0 r1 r2 r3 r4 r5 r6 row rs tg st ln pa nd ar lv of) ++ (wW cA v0 v1 v2 bt2_1 wz2_1 op dp)) H := hP
  have hD : va_D A ((wK cA k0 r0 v0) ++ (wR cA r0 r1 r2 r3 r4 r5 r6 row rs tg st ln pa nd ar lv of) ++ (wW cA v0 v1 v2 bt2_1 wz2_1 op dp)) := hD
  have hw_1 : r_1 = pbC b dp wz bt op ∧ ((pbC b dp wz bt op = 0 ∧ isB b ∧ wz < 300 ∧ bt2_1 = va_up bt wz b.toNatClampNeg ∧ wz2_1 = wz + 1) ∨ (pbC b dp wz bt op ≠ 0 ∧ bt2_1 = bt ∧ wz2_1 = wz)) := hw_1
  have hP9 : va_P (dC, dI) vwCl (vX3_putByte cA k0 r0 v0 r1 r2 r3 r4 r5 r6 row rs tg st ln pa nd ar lv of v1 v2 bt wz op dp b (bt2_1, wz2_1)) _ := hP
  have hD9 : va_D A (vX3_putByte cA k0 r0 v0 r1 r2 r3 r4 r5 r6 row rs tg st ln pa nd ar lv of v1 v2 bt wz op dp b (bt2_1, wz2_1)) := hD
  have hq9 : pX3_putByte k0 r0 v0 r1 r2 r3 r4 r5 r6 row rs tg st ln pa nd ar lv of v1 v2 bt wz op dp b (r_1) (bt2_1, wz2_1) := hw_1
  exact W.iret (v := r_1) hx hb hr (fun t ht hW => ⟨⟨r_1, (bt2_1, wz2_1), rfl, hq9, by rw [ht]; exact hP9, va_K.moved hW.alike hK, hD9⟩, hS.F ht⟩) hS.2.2 dX3_putByte_8
abbrev pX3_putInt (k0 : Nat) (r0 : Nat) (v0 : Nat) (r1 : Nat) (r2 : Nat) (r3 : Nat) (r4 : Nat) (r5 : Nat) (r6 : Nat) (row : Nat → Nat) (rs : Nat) (tg : Nat → Nat) (st : Nat → Nat) (ln : Nat → Nat) (pa : Nat → Int32) (nd : Nat) (ar : Nat → Nat) (lv : Nat) (of : Int32) (v1 : Nat) (v2 : Nat) (bt : Nat → Nat) (wz : Nat) (op : Nat → Nat) (dp : Nat) (v : Int32) : Int32 → (Nat → Nat) × Nat → Prop := fun (r : Int32) (u : (Nat → Nat) × Nat) => match u with | (bt2, wz2) => r = piC v dp wz bt op ∧ ((piC v dp wz bt op = 0 ∧ wz + intSz v ≤ 300 ∧ bt2 = pB bt wz (byN v) (intSz v) (intSz v) ∧ wz2 = wz + intSz v) ∨ (piC v dp wz bt op ≠ 0 ∧ bt2 = bt ∧ wz2 = wz))
abbrev vX3_putInt (cA : ClassId) (k0 : Nat) (r0 : Nat) (v0 : Nat) (r1 : Nat) (r2 : Nat) (r3 : Nat) (r4 : Nat) (r5 : Nat) (r6 : Nat) (row : Nat → Nat) (rs : Nat) (tg : Nat → Nat) (st : Nat → Nat) (ln : Nat → Nat) (pa : Nat → Int32) (nd : Nat) (ar : Nat → Nat) (lv : Nat) (of : Int32) (v1 : Nat) (v2 : Nat) (bt : Nat → Nat) (wz : Nat) (op : Nat → Nat) (dp : Nat) (v : Int32) : (Nat → Nat) × Nat → va_W := fun (u : (Nat → Nat) × Nat) => match u with | (bt2, wz2) => (wK cA k0 r0 v0) ++ (wR cA r0 r1 r2 r3 r4 r5 r6 row rs tg st ln pa nd ar lv of) ++ (wW cA v0 v1 v2 bt2 wz2 op dp)
abbrev qX3_putInt (dC : Nat → ClassId) (dI : Nat → Nat → Nat) (cA : ClassId) (A : Nat → Prop) (k0 : Nat) (r0 : Nat) (v0 : Nat) (r1 : Nat) (r2 : Nat) (r3 : Nat) (r4 : Nat) (r5 : Nat) (r6 : Nat) (row : Nat → Nat) (rs : Nat) (tg : Nat → Nat) (st : Nat → Nat) (ln : Nat → Nat) (pa : Nat → Int32) (nd : Nat) (ar : Nat → Nat) (lv : Nat) (of : Int32) (v1 : Nat) (v2 : Nat) (bt : Nat → Nat) (wz : Nat) (op : Nat → Nat) (dp : Nat) (v : Int32) : Array Value → State → Outcome → State → Prop := va_Qi (pX3_putInt k0 r0 v0 r1 r2 r3 r4 r5 r6 row rs tg st ln pa nd ar lv of v1 v2 bt wz op dp v) (fun u => cAft dC dI cA A (vX3_putInt cA k0 r0 v0 r1 r2 r3 r4 r5 r6 row rs tg st ln pa nd ar lv of v1 v2 bt wz op dp v u)) A
set_option maxHeartbeats 4000000 in
set_option maxRecDepth 100000 in
theorem k_X3_putInt (l : Launch) (dC : Nat → ClassId) (dI : Nat → Nat → Nat) (cA : ClassId) (k0 : Nat) (r0 : Nat) (v0 : Nat) (r1 : Nat) (r2 : Nat) (r3 : Nat) (r4 : Nat) (r5 : Nat) (r6 : Nat) (row : Nat → Nat) (rs : Nat) (tg : Nat → Nat) (st : Nat → Nat) (ln : Nat → Nat) (pa : Nat → Int32) (nd : Nat) (ar : Nat → Nat) (lv : Nat) (of : Int32) (v1 : Nat) (v2 : Nat) (bt : Nat → Nat) (wz : Nat) (op : Nat → Nat) (dp : Nat) (v : Int32) (sz : Nat) (hbt : ∀ j, bt j < 256) (hwz : wz ≤ 300) (hdp : dp ≤ 16) (hop : ∀ j, j < dp → op j < wz) : Met l yX3_putInt wsX3_putInt ({ frames := 2, cells := 0, slots := 0, locals := 44 } : Room) (va_Pc [.ref k0, .int v] (fun U => cPre dC dI cA ((wK cA k0 r0 v0) ++ (wR cA r0 r1 r2 r3 r4 r5 r6 row rs tg st ln pa nd ar lv of) ++ (wW cA v0 v1 v2 bt wz op dp)) sz U ∧ nestP U)) (qX3_putInt dC dI cA (va_A ((wK cA k0 r0 v0) ++ (wR cA r0 r1 r2 r3 r4 r5 r6 row rs tg st ln pa nd ar lv of) ++ (wW cA v0 v1 v2 bt wz op dp)) sz) k0 r0 v0 r1 r2 r3 r4 r5 r6 row rs tg st ln pa nd ar lv of v1 v2 bt wz op dp v) 0 0 (va_A ((wK cA k0 r0 v0) ++ (wR cA r0 r1 r2 r3 r4 r5 r6 row rs tg st ln pa nd ar lv of) ++ (wW cA v0 v1 v2 bt wz op dp)) sz) := by
  refine Met.ofW (cc := cX3_putInt) (maxL := 2) (ret := (some .int)) (by decide) rfl ?_
  intro p e s m args below meth c s₁ B hml hv
  obtain ⟨rfl, ⟨hsz, hP, hK, hD0⟩, hN⟩ := hv
  have hx := B.exec
  have hb := B.bytes
  have hr := B.returns
  have hts := atoms_spec (ws := wsX3_putInt) B.pre
  have hown : s.vm.findClass RX3 = some m.cls := findClass_of_methodNamed B.named
  have hlocks := B.notSynchronized
  subst hsz
  have hD := hD0.self (sz := s.heap.size)
  generalize hAe : va_A ((wK cA k0 r0 v0) ++ (wR cA r0 r1 r2 r3 r4 r5 r6 row rs tg st ln pa nd ar lv of) ++ (wW cA v0 v1 v2 bt wz op dp)) s.heap.size = A at hD ⊢
  have hA : ∀ q : Nat, s.heap.size ≤ q → A q := fun q h => by rw [← hAe]; exact Or.inr h
  have hS : va_S A s.heap s.heap [] := va_S.rf
  have hl := lv_entry ([.ref k0, .int v]) (n := 2) (Nat.le_of_ble_eq_true rfl)
  rw [lg_entry_eq]
  generalize (lg_sl ([.ref k0, .int v]) ++ List.replicate (2 - (lg_sl ([.ref k0, .int v])).length) Slot.unset).toArray = ls at hl ⊢
  have hl : lv_has ls 2 [(0, .ref k0), (1, .int v)] := hl
  have hinX3 : ∀ w ∈ wsX30, w ∈ wsX3_putInt := fun _ h => List.mem_cons_of_mem _ (List.mem_append_left _ (List.mem_append_right _ h))
  have hinX2 : ∀ w ∈ wsX20, w ∈ wsX3_putInt := fun _ h => List.mem_cons_of_mem _ (List.mem_append_right _ h)
  have hf_19 := hts (.fieldLink RX3 19 "DerDesk" "writer" "LDerDesk$Writer;") (by decide +kernel)
  have hP : va_P (dC, dI) vwCl ((wK cA k0 r0 v0) ++ (wR cA r0 r1 r2 r3 r4 r5 r6 row rs tg st ln pa nd ar lv of) ++ (wW cA v0 v1 v2 bt wz op dp)) s.heap := hP
  refine lv_aload_n hx hb dX3_putInt_0 rfl (lv_at hl 0 rfl) ?_
  refine va_get (D := (dC, dI)) (ci := 2) (v := .ref v0) (C := RX3) (T := TX3) (N := 2) hx hb hts hinX3 hown hK hP 0 rfl rfl 1 (by decide) hf_19 (fun _ h9 => h9) rfl dX3_putInt_1 ?_
  refine lv_iload_n hx hb dX3_putInt_4 rfl (lv_at hl 1 rfl) ?_
  refine cl_Vi (As := [.int v]) (rest := []) (wr := [(k0, .inr (2, [.ref r0, .ref v0])), (r0, .inr (0, [.ref r1, .int (nI rs), .ref r2, .ref r3, .ref r4, .ref r5, .int (nI nd), .ref r6, .int (nI lv), .int of])), (r1, .inl (cA, 300, .inl (nA row))), (r2, .inl (cA, 64, .inl (nA tg))), (r3, .inl (cA, 64, .inl (nA st))), (r4, .inl (cA, 64, .inl (nA ln))), (r5, .inl (cA, 64, .inl (pa))), (r6, .inl (cA, 16, .inl (nA ar)))]) ⟨hx, hb, hml, hown, hts⟩ (k_X2_addInteger l dC dI cA v0 v1 v2 bt wz op dp v _ hbt hwz hdp hop) (cwV 1 hts gX3_putInt_X2_addInteger rfl rfl rfl (by decide +kernel) ⟨Nat.le_of_ble_eq_true rfl, Nat.le_of_ble_eq_true rfl⟩) hK hP hD hS hA [8, 9, 10] [0, 1, 2, 3, 4, 5, 6, 7] rfl rfl (by decide) (by decide) (by decide) (ci := 1) (q0 := 0) rfl rfl rfl rfl hl.1 rfl (Nat.le_of_ble_eq_true rfl) dX3_putInt_5 ⟨Nat.le_of_ble_eq_true rfl, Nat.le_of_ble_eq_true rfl⟩ (fun r_1 u_1 H locs hw_1 hP hD hS => ?_)
  obtain ⟨bt2_1, wz2_1⟩ := u_1
  have hP : va_P (dC, dI) vwCl ((wK cA k0 r0 v0) ++ (wR cA r0 r1 r2 r3 r4 r5 r6 row rs tg st ln pa nd ar lv of) ++ (wW cA v0 v1 v2 bt2_1 wz2_1 op dp)) H := hP
  have hD : va_D A ((wK cA k0 r0 v0) ++ (wR cA r0 r1 r2 r3 r4 r5 r6 row rs tg st ln pa nd ar lv of) ++ (wW cA v0 v1 v2 bt2_1 wz2_1 op dp)) := hD
  have hw_1 : r_1 = piC v dp wz bt op ∧ ((piC v dp wz bt op = 0 ∧ wz + intSz v ≤ 300 ∧ bt2_1 = pB bt wz (byN v) (intSz v) (intSz v) ∧ wz2_1 = wz + intSz v) ∨ (piC v dp wz bt op ≠ 0 ∧ bt2_1 = bt ∧ wz2_1 = wz)) := hw_1
  have hP9 : va_P (dC, dI) vwCl (vX3_putInt cA k0 r0 v0 r1 r2 r3 r4 r5 r6 row rs tg st ln pa nd ar lv of v1 v2 bt wz op dp v (bt2_1, wz2_1)) _ := hP
  have hD9 : va_D A (vX3_putInt cA k0 r0 v0 r1 r2 r3 r4 r5 r6 row rs tg st ln pa nd ar lv of v1 v2 bt wz op dp v (bt2_1, wz2_1)) := hD
  have hq9 : pX3_putInt k0 r0 v0 r1 r2 r3 r4 r5 r6 row rs tg st ln pa nd ar lv of v1 v2 bt wz op dp v (r_1) (bt2_1, wz2_1) := hw_1
  exact W.iret (v := r_1) hx hb hr (fun t ht hW => ⟨⟨r_1, (bt2_1, wz2_1), rfl, hq9, by rw [ht]; exact hP9, va_K.moved hW.alike hK, hD9⟩, hS.F ht⟩) hS.2.2 dX3_putInt_8
abbrev pX3_putPart (k0 : Nat) (r0 : Nat) (v0 : Nat) (r1 : Nat) (r2 : Nat) (r3 : Nat) (r4 : Nat) (r5 : Nat) (r6 : Nat) (row : Nat → Nat) (rs : Nat) (tg : Nat → Nat) (st : Nat → Nat) (ln : Nat → Nat) (pa : Nat → Int32) (nd : Nat) (ar : Nat → Nat) (lv : Nat) (of : Int32) (v1 : Nat) (v2 : Nat) (bt : Nat → Nat) (wz : Nat) (op : Nat → Nat) (dp : Nat) (v : Int32) : Int32 → (Nat → Nat) × Nat → Prop := fun (r : Int32) (u : (Nat → Nat) × Nat) => match u with | (bt2, wz2) => r = ppC v dp wz bt op ∧ ((ppC v dp wz bt op = 0 ∧ wz + partSz v ≤ 300 ∧ bt2 = pB bt wz (bpN v) (partSz v) (partSz v) ∧ wz2 = wz + partSz v) ∨ (ppC v dp wz bt op ≠ 0 ∧ bt2 = bt ∧ wz2 = wz))
abbrev vX3_putPart (cA : ClassId) (k0 : Nat) (r0 : Nat) (v0 : Nat) (r1 : Nat) (r2 : Nat) (r3 : Nat) (r4 : Nat) (r5 : Nat) (r6 : Nat) (row : Nat → Nat) (rs : Nat) (tg : Nat → Nat) (st : Nat → Nat) (ln : Nat → Nat) (pa : Nat → Int32) (nd : Nat) (ar : Nat → Nat) (lv : Nat) (of : Int32) (v1 : Nat) (v2 : Nat) (bt : Nat → Nat) (wz : Nat) (op : Nat → Nat) (dp : Nat) (v : Int32) : (Nat → Nat) × Nat → va_W := fun (u : (Nat → Nat) × Nat) => match u with | (bt2, wz2) => (wK cA k0 r0 v0) ++ (wR cA r0 r1 r2 r3 r4 r5 r6 row rs tg st ln pa nd ar lv of) ++ (wW cA v0 v1 v2 bt2 wz2 op dp)
abbrev qX3_putPart (dC : Nat → ClassId) (dI : Nat → Nat → Nat) (cA : ClassId) (A : Nat → Prop) (k0 : Nat) (r0 : Nat) (v0 : Nat) (r1 : Nat) (r2 : Nat) (r3 : Nat) (r4 : Nat) (r5 : Nat) (r6 : Nat) (row : Nat → Nat) (rs : Nat) (tg : Nat → Nat) (st : Nat → Nat) (ln : Nat → Nat) (pa : Nat → Int32) (nd : Nat) (ar : Nat → Nat) (lv : Nat) (of : Int32) (v1 : Nat) (v2 : Nat) (bt : Nat → Nat) (wz : Nat) (op : Nat → Nat) (dp : Nat) (v : Int32) : Array Value → State → Outcome → State → Prop := va_Qi (pX3_putPart k0 r0 v0 r1 r2 r3 r4 r5 r6 row rs tg st ln pa nd ar lv of v1 v2 bt wz op dp v) (fun u => cAft dC dI cA A (vX3_putPart cA k0 r0 v0 r1 r2 r3 r4 r5 r6 row rs tg st ln pa nd ar lv of v1 v2 bt wz op dp v u)) A
set_option maxHeartbeats 4000000 in
set_option maxRecDepth 100000 in
theorem k_X3_putPart (l : Launch) (dC : Nat → ClassId) (dI : Nat → Nat → Nat) (cA : ClassId) (k0 : Nat) (r0 : Nat) (v0 : Nat) (r1 : Nat) (r2 : Nat) (r3 : Nat) (r4 : Nat) (r5 : Nat) (r6 : Nat) (row : Nat → Nat) (rs : Nat) (tg : Nat → Nat) (st : Nat → Nat) (ln : Nat → Nat) (pa : Nat → Int32) (nd : Nat) (ar : Nat → Nat) (lv : Nat) (of : Int32) (v1 : Nat) (v2 : Nat) (bt : Nat → Nat) (wz : Nat) (op : Nat → Nat) (dp : Nat) (v : Int32) (sz : Nat) (hbt : ∀ j, bt j < 256) (hwz : wz ≤ 300) (hdp : dp ≤ 16) (hop : ∀ j, j < dp → op j < wz) : Met l yX3_putPart wsX3_putPart ({ frames := 2, cells := 0, slots := 0, locals := 45 } : Room) (va_Pc [.ref k0, .int v] (fun U => cPre dC dI cA ((wK cA k0 r0 v0) ++ (wR cA r0 r1 r2 r3 r4 r5 r6 row rs tg st ln pa nd ar lv of) ++ (wW cA v0 v1 v2 bt wz op dp)) sz U ∧ nestP U)) (qX3_putPart dC dI cA (va_A ((wK cA k0 r0 v0) ++ (wR cA r0 r1 r2 r3 r4 r5 r6 row rs tg st ln pa nd ar lv of) ++ (wW cA v0 v1 v2 bt wz op dp)) sz) k0 r0 v0 r1 r2 r3 r4 r5 r6 row rs tg st ln pa nd ar lv of v1 v2 bt wz op dp v) 0 0 (va_A ((wK cA k0 r0 v0) ++ (wR cA r0 r1 r2 r3 r4 r5 r6 row rs tg st ln pa nd ar lv of) ++ (wW cA v0 v1 v2 bt wz op dp)) sz) := by
  refine Met.ofW (cc := cX3_putPart) (maxL := 2) (ret := (some .int)) (by decide) rfl ?_
  intro p e s m args below meth c s₁ B hml hv
  obtain ⟨rfl, ⟨hsz, hP, hK, hD0⟩, hN⟩ := hv
  have hx := B.exec
  have hb := B.bytes
  have hr := B.returns
  have hts := atoms_spec (ws := wsX3_putPart) B.pre
  have hown : s.vm.findClass RX3 = some m.cls := findClass_of_methodNamed B.named
  have hlocks := B.notSynchronized
  subst hsz
  have hD := hD0.self (sz := s.heap.size)
  generalize hAe : va_A ((wK cA k0 r0 v0) ++ (wR cA r0 r1 r2 r3 r4 r5 r6 row rs tg st ln pa nd ar lv of) ++ (wW cA v0 v1 v2 bt wz op dp)) s.heap.size = A at hD ⊢
  have hA : ∀ q : Nat, s.heap.size ≤ q → A q := fun q h => by rw [← hAe]; exact Or.inr h
  have hS : va_S A s.heap s.heap [] := va_S.rf
  have hl := lv_entry ([.ref k0, .int v]) (n := 2) (Nat.le_of_ble_eq_true rfl)
  rw [lg_entry_eq]
  generalize (lg_sl ([.ref k0, .int v]) ++ List.replicate (2 - (lg_sl ([.ref k0, .int v])).length) Slot.unset).toArray = ls at hl ⊢
  have hl : lv_has ls 2 [(0, .ref k0), (1, .int v)] := hl
  have hinX3 : ∀ w ∈ wsX30, w ∈ wsX3_putPart := fun _ h => List.mem_cons_of_mem _ (List.mem_append_left _ (List.mem_append_right _ h))
  have hinX2 : ∀ w ∈ wsX20, w ∈ wsX3_putPart := fun _ h => List.mem_cons_of_mem _ (List.mem_append_right _ h)
  have hf_19 := hts (.fieldLink RX3 19 "DerDesk" "writer" "LDerDesk$Writer;") (by decide +kernel)
  have hP : va_P (dC, dI) vwCl ((wK cA k0 r0 v0) ++ (wR cA r0 r1 r2 r3 r4 r5 r6 row rs tg st ln pa nd ar lv of) ++ (wW cA v0 v1 v2 bt wz op dp)) s.heap := hP
  refine lv_aload_n hx hb dX3_putPart_0 rfl (lv_at hl 0 rfl) ?_
  refine va_get (D := (dC, dI)) (ci := 2) (v := .ref v0) (C := RX3) (T := TX3) (N := 2) hx hb hts hinX3 hown hK hP 0 rfl rfl 1 (by decide) hf_19 (fun _ h9 => h9) rfl dX3_putPart_1 ?_
  refine lv_iload_n hx hb dX3_putPart_4 rfl (lv_at hl 1 rfl) ?_
  refine cl_Vi (As := [.int v]) (rest := []) (wr := [(k0, .inr (2, [.ref r0, .ref v0])), (r0, .inr (0, [.ref r1, .int (nI rs), .ref r2, .ref r3, .ref r4, .ref r5, .int (nI nd), .ref r6, .int (nI lv), .int of])), (r1, .inl (cA, 300, .inl (nA row))), (r2, .inl (cA, 64, .inl (nA tg))), (r3, .inl (cA, 64, .inl (nA st))), (r4, .inl (cA, 64, .inl (nA ln))), (r5, .inl (cA, 64, .inl (pa))), (r6, .inl (cA, 16, .inl (nA ar)))]) ⟨hx, hb, hml, hown, hts⟩ (k_X2_addPart l dC dI cA v0 v1 v2 bt wz op dp v _ hbt hwz hdp hop) (cwV 1 hts gX3_putPart_X2_addPart rfl rfl rfl (by decide +kernel) ⟨Nat.le_of_ble_eq_true rfl, Nat.le_of_ble_eq_true rfl⟩) hK hP hD hS hA [8, 9, 10] [0, 1, 2, 3, 4, 5, 6, 7] rfl rfl (by decide) (by decide) (by decide) (ci := 1) (q0 := 0) rfl rfl rfl rfl hl.1 rfl (Nat.le_of_ble_eq_true rfl) dX3_putPart_5 ⟨Nat.le_of_ble_eq_true rfl, Nat.le_of_ble_eq_true rfl⟩ (fun r_1 u_1 H locs hw_1 hP hD hS => ?_)
  obtain ⟨bt2_1, wz2_1⟩ := u_1
  have hP : va_P (dC, dI) vwCl ((wK cA k0 r0 v0) ++ (wR cA r0 r1 r2 r3 r4 r5 r6 row rs tg st ln pa nd ar lv of) ++ (wW cA v0 v1 v2 bt2_1 wz2_1 op dp)) H := hP
  have hD : va_D A ((wK cA k0 r0 v0) ++ (wR cA r0 r1 r2 r3 r4 r5 r6 row rs tg st ln pa nd ar lv of) ++ (wW cA v0 v1 v2 bt2_1 wz2_1 op dp)) := hD
  have hw_1 : r_1 = ppC v dp wz bt op ∧ ((ppC v dp wz bt op = 0 ∧ wz + partSz v ≤ 300 ∧ bt2_1 = pB bt wz (bpN v) (partSz v) (partSz v) ∧ wz2_1 = wz + partSz v) ∨ (ppC v dp wz bt op ≠ 0 ∧ bt2_1 = bt ∧ wz2_1 = wz)) := hw_1
  have hP9 : va_P (dC, dI) vwCl (vX3_putPart cA k0 r0 v0 r1 r2 r3 r4 r5 r6 row rs tg st ln pa nd ar lv of v1 v2 bt wz op dp v (bt2_1, wz2_1)) _ := hP
  have hD9 : va_D A (vX3_putPart cA k0 r0 v0 r1 r2 r3 r4 r5 r6 row rs tg st ln pa nd ar lv of v1 v2 bt wz op dp v (bt2_1, wz2_1)) := hD
  have hq9 : pX3_putPart k0 r0 v0 r1 r2 r3 r4 r5 r6 row rs tg st ln pa nd ar lv of v1 v2 bt wz op dp v (r_1) (bt2_1, wz2_1) := hw_1
  exact W.iret (v := r_1) hx hb hr (fun t ht hW => ⟨⟨r_1, (bt2_1, wz2_1), rfl, hq9, by rw [ht]; exact hP9, va_K.moved hW.alike hK, hD9⟩, hS.F ht⟩) hS.2.2 dX3_putPart_8
abbrev pX3_end (k0 : Nat) (r0 : Nat) (v0 : Nat) (r1 : Nat) (r2 : Nat) (r3 : Nat) (r4 : Nat) (r5 : Nat) (r6 : Nat) (row : Nat → Nat) (rs : Nat) (tg : Nat → Nat) (st : Nat → Nat) (ln : Nat → Nat) (pa : Nat → Int32) (nd : Nat) (ar : Nat → Nat) (lv : Nat) (of : Int32) (v1 : Nat) (v2 : Nat) (bt : Nat → Nat) (wz : Nat) (op : Nat → Nat) (dp : Nat) : Int32 → (Nat → Nat) × Nat × Nat → Prop := fun (r : Int32) (u : (Nat → Nat) × Nat × Nat) => match u with | (bt2, wz2, dp2) => r = enC dp wz bt op ∧ ((enC dp wz bt op = 0 ∧ 0 < dp ∧ wz + lenSz (enN dp wz op) ≤ 300 ∧ enB dp wz bt op bt2 ∧ wz2 = wz + lenSz (enN dp wz op) ∧ dp2 = dp - 1) ∨ (enC dp wz bt op = -4 ∧ 0 < dp ∧ bt2 = bt ∧ wz2 = op (dp - 1) ∧ dp2 = dp - 1) ∨ (enC dp wz bt op ≠ 0 ∧ enC dp wz bt op ≠ -4 ∧ bt2 = bt ∧ wz2 = wz ∧ dp2 = dp)) ∧ (∀ j, bt2 j < 256)
abbrev vX3_end (cA : ClassId) (k0 : Nat) (r0 : Nat) (v0 : Nat) (r1 : Nat) (r2 : Nat) (r3 : Nat) (r4 : Nat) (r5 : Nat) (r6 : Nat) (row : Nat → Nat) (rs : Nat) (tg : Nat → Nat) (st : Nat → Nat) (ln : Nat → Nat) (pa : Nat → Int32) (nd : Nat) (ar : Nat → Nat) (lv : Nat) (of : Int32) (v1 : Nat) (v2 : Nat) (bt : Nat → Nat) (wz : Nat) (op : Nat → Nat) (dp : Nat) : (Nat → Nat) × Nat × Nat → va_W := fun (u : (Nat → Nat) × Nat × Nat) => match u with | (bt2, wz2, dp2) => (wK cA k0 r0 v0) ++ (wR cA r0 r1 r2 r3 r4 r5 r6 row rs tg st ln pa nd ar lv of) ++ (wW cA v0 v1 v2 bt2 wz2 op dp2)
abbrev qX3_end (dC : Nat → ClassId) (dI : Nat → Nat → Nat) (cA : ClassId) (A : Nat → Prop) (k0 : Nat) (r0 : Nat) (v0 : Nat) (r1 : Nat) (r2 : Nat) (r3 : Nat) (r4 : Nat) (r5 : Nat) (r6 : Nat) (row : Nat → Nat) (rs : Nat) (tg : Nat → Nat) (st : Nat → Nat) (ln : Nat → Nat) (pa : Nat → Int32) (nd : Nat) (ar : Nat → Nat) (lv : Nat) (of : Int32) (v1 : Nat) (v2 : Nat) (bt : Nat → Nat) (wz : Nat) (op : Nat → Nat) (dp : Nat) : Array Value → State → Outcome → State → Prop := va_Qi (pX3_end k0 r0 v0 r1 r2 r3 r4 r5 r6 row rs tg st ln pa nd ar lv of v1 v2 bt wz op dp) (fun u => cAft dC dI cA A (vX3_end cA k0 r0 v0 r1 r2 r3 r4 r5 r6 row rs tg st ln pa nd ar lv of v1 v2 bt wz op dp u)) A
set_option maxHeartbeats 4000000 in
set_option maxRecDepth 100000 in
theorem k_X3_end (l : Launch) (dC : Nat → ClassId) (dI : Nat → Nat → Nat) (cA : ClassId) (k0 : Nat) (r0 : Nat) (v0 : Nat) (r1 : Nat) (r2 : Nat) (r3 : Nat) (r4 : Nat) (r5 : Nat) (r6 : Nat) (row : Nat → Nat) (rs : Nat) (tg : Nat → Nat) (st : Nat → Nat) (ln : Nat → Nat) (pa : Nat → Int32) (nd : Nat) (ar : Nat → Nat) (lv : Nat) (of : Int32) (v1 : Nat) (v2 : Nat) (bt : Nat → Nat) (wz : Nat) (op : Nat → Nat) (dp : Nat) (sz : Nat) (hbt : ∀ j, bt j < 256) (hwz : wz ≤ 300) (hdp : dp ≤ 16) (hop : ∀ j, j < dp → op j < wz) : Met l yX3_end wsX3_end ({ frames := 3, cells := 0, slots := 0, locals := 71 } : Room) (va_Pc [.ref k0] (fun U => cPre dC dI cA ((wK cA k0 r0 v0) ++ (wR cA r0 r1 r2 r3 r4 r5 r6 row rs tg st ln pa nd ar lv of) ++ (wW cA v0 v1 v2 bt wz op dp)) sz U ∧ nestP U)) (qX3_end dC dI cA (va_A ((wK cA k0 r0 v0) ++ (wR cA r0 r1 r2 r3 r4 r5 r6 row rs tg st ln pa nd ar lv of) ++ (wW cA v0 v1 v2 bt wz op dp)) sz) k0 r0 v0 r1 r2 r3 r4 r5 r6 row rs tg st ln pa nd ar lv of v1 v2 bt wz op dp) 0 0 (va_A ((wK cA k0 r0 v0) ++ (wR cA r0 r1 r2 r3 r4 r5 r6 row rs tg st ln pa nd ar lv of) ++ (wW cA v0 v1 v2 bt wz op dp)) sz) := by
  refine Met.ofW (cc := cX3_end) (maxL := 1) (ret := (some .int)) (by decide) rfl ?_
  intro p e s m args below meth c s₁ B hml hv
  obtain ⟨rfl, ⟨hsz, hP, hK, hD0⟩, hN⟩ := hv
  have hx := B.exec
  have hb := B.bytes
  have hr := B.returns
  have hts := atoms_spec (ws := wsX3_end) B.pre
  have hown : s.vm.findClass RX3 = some m.cls := findClass_of_methodNamed B.named
  have hlocks := B.notSynchronized
  subst hsz
  have hD := hD0.self (sz := s.heap.size)
  generalize hAe : va_A ((wK cA k0 r0 v0) ++ (wR cA r0 r1 r2 r3 r4 r5 r6 row rs tg st ln pa nd ar lv of) ++ (wW cA v0 v1 v2 bt wz op dp)) s.heap.size = A at hD ⊢
  have hA : ∀ q : Nat, s.heap.size ≤ q → A q := fun q h => by rw [← hAe]; exact Or.inr h
  have hS : va_S A s.heap s.heap [] := va_S.rf
  have hl := lv_entry ([.ref k0]) (n := 1) (Nat.le_of_ble_eq_true rfl)
  rw [lg_entry_eq]
  generalize (lg_sl ([.ref k0]) ++ List.replicate (1 - (lg_sl ([.ref k0])).length) Slot.unset).toArray = ls at hl ⊢
  have hl : lv_has ls 1 [(0, .ref k0)] := hl
  have hinX3 : ∀ w ∈ wsX30, w ∈ wsX3_end := fun _ h => List.mem_cons_of_mem _ (List.mem_append_left _ (List.mem_append_right _ h))
  have hinX2 : ∀ w ∈ wsX20, w ∈ wsX3_end := fun _ h => List.mem_cons_of_mem _ (List.mem_append_right _ h)
  have hf_19 := hts (.fieldLink RX3 19 "DerDesk" "writer" "LDerDesk$Writer;") (by decide +kernel)
  have hP : va_P (dC, dI) vwCl ((wK cA k0 r0 v0) ++ (wR cA r0 r1 r2 r3 r4 r5 r6 row rs tg st ln pa nd ar lv of) ++ (wW cA v0 v1 v2 bt wz op dp)) s.heap := hP
  refine lv_aload_n hx hb dX3_end_0 rfl (lv_at hl 0 rfl) ?_
  refine va_get (D := (dC, dI)) (ci := 2) (v := .ref v0) (C := RX3) (T := TX3) (N := 2) hx hb hts hinX3 hown hK hP 0 rfl rfl 1 (by decide) hf_19 (fun _ h9 => h9) rfl dX3_end_1 ?_
  refine cl_Vi (As := []) (rest := []) (wr := [(k0, .inr (2, [.ref r0, .ref v0])), (r0, .inr (0, [.ref r1, .int (nI rs), .ref r2, .ref r3, .ref r4, .ref r5, .int (nI nd), .ref r6, .int (nI lv), .int of])), (r1, .inl (cA, 300, .inl (nA row))), (r2, .inl (cA, 64, .inl (nA tg))), (r3, .inl (cA, 64, .inl (nA st))), (r4, .inl (cA, 64, .inl (nA ln))), (r5, .inl (cA, 64, .inl (pa))), (r6, .inl (cA, 16, .inl (nA ar)))]) ⟨hx, hb, hml, hown, hts⟩ (k_X2_close l dC dI cA v0 v1 v2 bt wz op dp _ hbt hwz hdp hop) (cwV 0 hts gX3_end_X2_close rfl rfl rfl (by decide +kernel) ⟨Nat.le_of_ble_eq_true rfl, Nat.le_of_ble_eq_true rfl⟩) hK hP hD hS hA [8, 9, 10] [0, 1, 2, 3, 4, 5, 6, 7] rfl rfl (by decide) (by decide) (by decide) (ci := 1) (q0 := 0) rfl rfl rfl rfl hl.1 rfl (Nat.le_of_ble_eq_true rfl) dX3_end_4 ⟨Nat.le_of_ble_eq_true rfl, Nat.le_of_ble_eq_true rfl⟩ (fun r_1 u_1 H locs hw_1 hP hD hS => ?_)
  obtain ⟨bt2_1, wz2_1, dp2_1⟩ := u_1
  have hP : va_P (dC, dI) vwCl ((wK cA k0 r0 v0) ++ (wR cA r0 r1 r2 r3 r4 r5 r6 row rs tg st ln pa nd ar lv of) ++ (wW cA v0 v1 v2 bt2_1 wz2_1 op dp2_1)) H := hP
  have hD : va_D A ((wK cA k0 r0 v0) ++ (wR cA r0 r1 r2 r3 r4 r5 r6 row rs tg st ln pa nd ar lv of) ++ (wW cA v0 v1 v2 bt2_1 wz2_1 op dp2_1)) := hD
  have hw_1 : r_1 = enC dp wz bt op ∧ ((enC dp wz bt op = 0 ∧ 0 < dp ∧ wz + lenSz (enN dp wz op) ≤ 300 ∧ enB dp wz bt op bt2_1 ∧ wz2_1 = wz + lenSz (enN dp wz op) ∧ dp2_1 = dp - 1) ∨ (enC dp wz bt op = -4 ∧ 0 < dp ∧ bt2_1 = bt ∧ wz2_1 = op (dp - 1) ∧ dp2_1 = dp - 1) ∨ (enC dp wz bt op ≠ 0 ∧ enC dp wz bt op ≠ -4 ∧ bt2_1 = bt ∧ wz2_1 = wz ∧ dp2_1 = dp)) ∧ (∀ j, bt2_1 j < 256) := hw_1
  have hP9 : va_P (dC, dI) vwCl (vX3_end cA k0 r0 v0 r1 r2 r3 r4 r5 r6 row rs tg st ln pa nd ar lv of v1 v2 bt wz op dp (bt2_1, wz2_1, dp2_1)) _ := hP
  have hD9 : va_D A (vX3_end cA k0 r0 v0 r1 r2 r3 r4 r5 r6 row rs tg st ln pa nd ar lv of v1 v2 bt wz op dp (bt2_1, wz2_1, dp2_1)) := hD
  have hq9 : pX3_end k0 r0 v0 r1 r2 r3 r4 r5 r6 row rs tg st ln pa nd ar lv of v1 v2 bt wz op dp (r_1) (bt2_1, wz2_1, dp2_1) := hw_1
  exact W.iret (v := r_1) hx hb hr (fun t ht hW => ⟨⟨r_1, (bt2_1, wz2_1, dp2_1), rfl, hq9, by rw [ht]; exact hP9, va_K.moved hW.alike hK, hD9⟩, hS.F ht⟩) hS.2.2 dX3_end_7
abbrev pX3_out (k0 : Nat) (r0 : Nat) (v0 : Nat) (r1 : Nat) (r2 : Nat) (r3 : Nat) (r4 : Nat) (r5 : Nat) (r6 : Nat) (row : Nat → Nat) (rs : Nat) (tg : Nat → Nat) (st : Nat → Nat) (ln : Nat → Nat) (pa : Nat → Int32) (nd : Nat) (ar : Nat → Nat) (lv : Nat) (of : Int32) (v1 : Nat) (v2 : Nat) (bt : Nat → Nat) (wz : Nat) (op : Nat → Nat) (dp : Nat) (i : Int32) : Int32 → Unit → Prop := fun (r : Int32) (u : Unit) => r = if isNd wz i then nI (bt i.toNatClampNeg) else -1
abbrev vX3_out (cA : ClassId) (k0 : Nat) (r0 : Nat) (v0 : Nat) (r1 : Nat) (r2 : Nat) (r3 : Nat) (r4 : Nat) (r5 : Nat) (r6 : Nat) (row : Nat → Nat) (rs : Nat) (tg : Nat → Nat) (st : Nat → Nat) (ln : Nat → Nat) (pa : Nat → Int32) (nd : Nat) (ar : Nat → Nat) (lv : Nat) (of : Int32) (v1 : Nat) (v2 : Nat) (bt : Nat → Nat) (wz : Nat) (op : Nat → Nat) (dp : Nat) (i : Int32) : Unit → va_W := fun (u : Unit) => (wK cA k0 r0 v0) ++ (wR cA r0 r1 r2 r3 r4 r5 r6 row rs tg st ln pa nd ar lv of) ++ (wW cA v0 v1 v2 bt wz op dp)
abbrev qX3_out (dC : Nat → ClassId) (dI : Nat → Nat → Nat) (cA : ClassId) (A : Nat → Prop) (k0 : Nat) (r0 : Nat) (v0 : Nat) (r1 : Nat) (r2 : Nat) (r3 : Nat) (r4 : Nat) (r5 : Nat) (r6 : Nat) (row : Nat → Nat) (rs : Nat) (tg : Nat → Nat) (st : Nat → Nat) (ln : Nat → Nat) (pa : Nat → Int32) (nd : Nat) (ar : Nat → Nat) (lv : Nat) (of : Int32) (v1 : Nat) (v2 : Nat) (bt : Nat → Nat) (wz : Nat) (op : Nat → Nat) (dp : Nat) (i : Int32) : Array Value → State → Outcome → State → Prop := va_Qi (pX3_out k0 r0 v0 r1 r2 r3 r4 r5 r6 row rs tg st ln pa nd ar lv of v1 v2 bt wz op dp i) (fun u => cAft dC dI cA A (vX3_out cA k0 r0 v0 r1 r2 r3 r4 r5 r6 row rs tg st ln pa nd ar lv of v1 v2 bt wz op dp i u)) A
set_option maxHeartbeats 4000000 in
set_option maxRecDepth 100000 in
theorem k_X3_out (l : Launch) (dC : Nat → ClassId) (dI : Nat → Nat → Nat) (cA : ClassId) (k0 : Nat) (r0 : Nat) (v0 : Nat) (r1 : Nat) (r2 : Nat) (r3 : Nat) (r4 : Nat) (r5 : Nat) (r6 : Nat) (row : Nat → Nat) (rs : Nat) (tg : Nat → Nat) (st : Nat → Nat) (ln : Nat → Nat) (pa : Nat → Int32) (nd : Nat) (ar : Nat → Nat) (lv : Nat) (of : Int32) (v1 : Nat) (v2 : Nat) (bt : Nat → Nat) (wz : Nat) (op : Nat → Nat) (dp : Nat) (i : Int32) (sz : Nat) (hwz : wz ≤ 300) : Met l yX3_out wsX3_out ({ frames := 1, cells := 0, slots := 0, locals := 21 } : Room) (va_Pc [.ref k0, .int i] (fun U => cPre dC dI cA ((wK cA k0 r0 v0) ++ (wR cA r0 r1 r2 r3 r4 r5 r6 row rs tg st ln pa nd ar lv of) ++ (wW cA v0 v1 v2 bt wz op dp)) sz U ∧ nestP U)) (qX3_out dC dI cA (va_A ((wK cA k0 r0 v0) ++ (wR cA r0 r1 r2 r3 r4 r5 r6 row rs tg st ln pa nd ar lv of) ++ (wW cA v0 v1 v2 bt wz op dp)) sz) k0 r0 v0 r1 r2 r3 r4 r5 r6 row rs tg st ln pa nd ar lv of v1 v2 bt wz op dp i) 0 0 (va_A ((wK cA k0 r0 v0) ++ (wR cA r0 r1 r2 r3 r4 r5 r6 row rs tg st ln pa nd ar lv of) ++ (wW cA v0 v1 v2 bt wz op dp)) sz) := by
  refine Met.ofW (cc := cX3_out) (maxL := 2) (ret := (some .int)) (by decide) rfl ?_
  intro p e s m args below meth c s₁ B hml hv
  obtain ⟨rfl, ⟨hsz, hP, hK, hD0⟩, hN⟩ := hv
  have hx := B.exec
  have hb := B.bytes
  have hr := B.returns
  have hts := atoms_spec (ws := wsX3_out) B.pre
  have hown : s.vm.findClass RX3 = some m.cls := findClass_of_methodNamed B.named
  have hlocks := B.notSynchronized
  subst hsz
  have hD := hD0.self (sz := s.heap.size)
  generalize hAe : va_A ((wK cA k0 r0 v0) ++ (wR cA r0 r1 r2 r3 r4 r5 r6 row rs tg st ln pa nd ar lv of) ++ (wW cA v0 v1 v2 bt wz op dp)) s.heap.size = A at hD ⊢
  have hA : ∀ q : Nat, s.heap.size ≤ q → A q := fun q h => by rw [← hAe]; exact Or.inr h
  have hS : va_S A s.heap s.heap [] := va_S.rf
  have hl := lv_entry ([.ref k0, .int i]) (n := 2) (Nat.le_of_ble_eq_true rfl)
  rw [lg_entry_eq]
  generalize (lg_sl ([.ref k0, .int i]) ++ List.replicate (2 - (lg_sl ([.ref k0, .int i])).length) Slot.unset).toArray = ls at hl ⊢
  have hl : lv_has ls 2 [(0, .ref k0), (1, .int i)] := hl
  have hinX3 : ∀ w ∈ wsX30, w ∈ wsX3_out := fun _ h => List.mem_cons_of_mem _ (List.mem_append_left _ (List.mem_append_right _ h))
  have hinX2 : ∀ w ∈ wsX20, w ∈ wsX3_out := fun _ h => List.mem_cons_of_mem _ (List.mem_append_right _ h)
  have hf_19 := hts (.fieldLink RX3 19 "DerDesk" "writer" "LDerDesk$Writer;") (by decide +kernel)
  have hP : va_P (dC, dI) vwCl ((wK cA k0 r0 v0) ++ (wR cA r0 r1 r2 r3 r4 r5 r6 row rs tg st ln pa nd ar lv of) ++ (wW cA v0 v1 v2 bt wz op dp)) s.heap := hP
  refine lv_aload_n hx hb dX3_out_0 rfl (lv_at hl 0 rfl) ?_
  refine va_get (D := (dC, dI)) (ci := 2) (v := .ref v0) (C := RX3) (T := TX3) (N := 2) hx hb hts hinX3 hown hK hP 0 rfl rfl 1 (by decide) hf_19 (fun _ h9 => h9) rfl dX3_out_1 ?_
  refine lv_iload_n hx hb dX3_out_4 rfl (lv_at hl 1 rfl) ?_
  refine cl_Vi (As := [.int i]) (rest := []) (wr := [(k0, .inr (2, [.ref r0, .ref v0])), (r0, .inr (0, [.ref r1, .int (nI rs), .ref r2, .ref r3, .ref r4, .ref r5, .int (nI nd), .ref r6, .int (nI lv), .int of])), (r1, .inl (cA, 300, .inl (nA row))), (r2, .inl (cA, 64, .inl (nA tg))), (r3, .inl (cA, 64, .inl (nA st))), (r4, .inl (cA, 64, .inl (nA ln))), (r5, .inl (cA, 64, .inl (pa))), (r6, .inl (cA, 16, .inl (nA ar)))]) ⟨hx, hb, hml, hown, hts⟩ (k_X2_byteAt l dC dI cA v0 v1 v2 bt wz op dp i _ hwz) (cwV 1 hts gX3_out_X2_byteAt rfl rfl rfl (by decide +kernel) ⟨Nat.le_of_ble_eq_true rfl, Nat.le_of_ble_eq_true rfl⟩) hK hP hD hS hA [8, 9, 10] [0, 1, 2, 3, 4, 5, 6, 7] rfl rfl (by decide) (by decide) (by decide) (ci := 1) (q0 := 0) rfl rfl rfl rfl hl.1 rfl (Nat.le_of_ble_eq_true rfl) dX3_out_5 ⟨Nat.le_of_ble_eq_true rfl, Nat.le_of_ble_eq_true rfl⟩ (fun r_1 u_1 H locs hw_1 hP hD hS => ?_)
  have hP : va_P (dC, dI) vwCl ((wK cA k0 r0 v0) ++ (wR cA r0 r1 r2 r3 r4 r5 r6 row rs tg st ln pa nd ar lv of) ++ (wW cA v0 v1 v2 bt wz op dp)) H := hP
  have hD : va_D A ((wK cA k0 r0 v0) ++ (wR cA r0 r1 r2 r3 r4 r5 r6 row rs tg st ln pa nd ar lv of) ++ (wW cA v0 v1 v2 bt wz op dp)) := hD
  have hw_1 : r_1 = if isNd wz i then nI (bt i.toNatClampNeg) else -1 := hw_1
  have hP9 : va_P (dC, dI) vwCl (vX3_out cA k0 r0 v0 r1 r2 r3 r4 r5 r6 row rs tg st ln pa nd ar lv of v1 v2 bt wz op dp i ()) _ := hP
  have hD9 : va_D A (vX3_out cA k0 r0 v0 r1 r2 r3 r4 r5 r6 row rs tg st ln pa nd ar lv of v1 v2 bt wz op dp i ()) := hD
  have hq9 : pX3_out k0 r0 v0 r1 r2 r3 r4 r5 r6 row rs tg st ln pa nd ar lv of v1 v2 bt wz op dp i (r_1) () := hw_1
  exact W.iret (v := r_1) hx hb hr (fun t ht hW => ⟨⟨r_1, (), rfl, hq9, by rw [ht]; exact hP9, va_K.moved hW.alike hK, hD9⟩, hS.F ht⟩) hS.2.2 dX3_out_8
abbrev pX3_restart (k0 : Nat) (r0 : Nat) (v0 : Nat) (r1 : Nat) (r2 : Nat) (r3 : Nat) (r4 : Nat) (r5 : Nat) (r6 : Nat) (row : Nat → Nat) (rs : Nat) (tg : Nat → Nat) (st : Nat → Nat) (ln : Nat → Nat) (pa : Nat → Int32) (nd : Nat) (ar : Nat → Nat) (lv : Nat) (of : Int32) (v1 : Nat) (v2 : Nat) (bt : Nat → Nat) (wz : Nat) (op : Nat → Nat) (dp : Nat) : Nat × Nat → Prop := fun (u : Nat × Nat) => match u with | (wz2, dp2) => wz2 = 0 ∧ dp2 = 0
abbrev vX3_restart (cA : ClassId) (k0 : Nat) (r0 : Nat) (v0 : Nat) (r1 : Nat) (r2 : Nat) (r3 : Nat) (r4 : Nat) (r5 : Nat) (r6 : Nat) (row : Nat → Nat) (rs : Nat) (tg : Nat → Nat) (st : Nat → Nat) (ln : Nat → Nat) (pa : Nat → Int32) (nd : Nat) (ar : Nat → Nat) (lv : Nat) (of : Int32) (v1 : Nat) (v2 : Nat) (bt : Nat → Nat) (wz : Nat) (op : Nat → Nat) (dp : Nat) : Nat × Nat → va_W := fun (u : Nat × Nat) => match u with | (wz2, dp2) => (wK cA k0 r0 v0) ++ (wR cA r0 r1 r2 r3 r4 r5 r6 row rs tg st ln pa nd ar lv of) ++ (wW cA v0 v1 v2 bt wz2 op dp2)
abbrev qX3_restart (dC : Nat → ClassId) (dI : Nat → Nat → Nat) (cA : ClassId) (A : Nat → Prop) (k0 : Nat) (r0 : Nat) (v0 : Nat) (r1 : Nat) (r2 : Nat) (r3 : Nat) (r4 : Nat) (r5 : Nat) (r6 : Nat) (row : Nat → Nat) (rs : Nat) (tg : Nat → Nat) (st : Nat → Nat) (ln : Nat → Nat) (pa : Nat → Int32) (nd : Nat) (ar : Nat → Nat) (lv : Nat) (of : Int32) (v1 : Nat) (v2 : Nat) (bt : Nat → Nat) (wz : Nat) (op : Nat → Nat) (dp : Nat) : Array Value → State → Outcome → State → Prop := va_Qv (pX3_restart k0 r0 v0 r1 r2 r3 r4 r5 r6 row rs tg st ln pa nd ar lv of v1 v2 bt wz op dp) (fun u => cAft dC dI cA A (vX3_restart cA k0 r0 v0 r1 r2 r3 r4 r5 r6 row rs tg st ln pa nd ar lv of v1 v2 bt wz op dp u)) A
set_option maxHeartbeats 4000000 in
set_option maxRecDepth 100000 in
theorem k_X3_restart (l : Launch) (dC : Nat → ClassId) (dI : Nat → Nat → Nat) (cA : ClassId) (k0 : Nat) (r0 : Nat) (v0 : Nat) (r1 : Nat) (r2 : Nat) (r3 : Nat) (r4 : Nat) (r5 : Nat) (r6 : Nat) (row : Nat → Nat) (rs : Nat) (tg : Nat → Nat) (st : Nat → Nat) (ln : Nat → Nat) (pa : Nat → Int32) (nd : Nat) (ar : Nat → Nat) (lv : Nat) (of : Int32) (v1 : Nat) (v2 : Nat) (bt : Nat → Nat) (wz : Nat) (op : Nat → Nat) (dp : Nat) (sz : Nat)  : Met l yX3_restart wsX3_restart ({ frames := 1, cells := 0, slots := 0, locals := 20 } : Room) (va_Pc [.ref k0] (fun U => cPre dC dI cA ((wK cA k0 r0 v0) ++ (wR cA r0 r1 r2 r3 r4 r5 r6 row rs tg st ln pa nd ar lv of) ++ (wW cA v0 v1 v2 bt wz op dp)) sz U ∧ nestP U)) (qX3_restart dC dI cA (va_A ((wK cA k0 r0 v0) ++ (wR cA r0 r1 r2 r3 r4 r5 r6 row rs tg st ln pa nd ar lv of) ++ (wW cA v0 v1 v2 bt wz op dp)) sz) k0 r0 v0 r1 r2 r3 r4 r5 r6 row rs tg st ln pa nd ar lv of v1 v2 bt wz op dp) 0 0 (va_A ((wK cA k0 r0 v0) ++ (wR cA r0 r1 r2 r3 r4 r5 r6 row rs tg st ln pa nd ar lv of) ++ (wW cA v0 v1 v2 bt wz op dp)) sz) := by
  refine Met.ofW (cc := cX3_restart) (maxL := 1) (ret := none) (by decide) rfl ?_
  intro p e s m args below meth c s₁ B hml hv
  obtain ⟨rfl, ⟨hsz, hP, hK, hD0⟩, hN⟩ := hv
  have hx := B.exec
  have hb := B.bytes
  have hr := B.returns
  have hts := atoms_spec (ws := wsX3_restart) B.pre
  have hown : s.vm.findClass RX3 = some m.cls := findClass_of_methodNamed B.named
  have hlocks := B.notSynchronized
  subst hsz
  have hD := hD0.self (sz := s.heap.size)
  generalize hAe : va_A ((wK cA k0 r0 v0) ++ (wR cA r0 r1 r2 r3 r4 r5 r6 row rs tg st ln pa nd ar lv of) ++ (wW cA v0 v1 v2 bt wz op dp)) s.heap.size = A at hD ⊢
  have hA : ∀ q : Nat, s.heap.size ≤ q → A q := fun q h => by rw [← hAe]; exact Or.inr h
  have hS : va_S A s.heap s.heap [] := va_S.rf
  have hl := lv_entry ([.ref k0]) (n := 1) (Nat.le_of_ble_eq_true rfl)
  rw [lg_entry_eq]
  generalize (lg_sl ([.ref k0]) ++ List.replicate (1 - (lg_sl ([.ref k0])).length) Slot.unset).toArray = ls at hl ⊢
  have hl : lv_has ls 1 [(0, .ref k0)] := hl
  have hinX3 : ∀ w ∈ wsX30, w ∈ wsX3_restart := fun _ h => List.mem_cons_of_mem _ (List.mem_append_left _ (List.mem_append_right _ h))
  have hinX2 : ∀ w ∈ wsX20, w ∈ wsX3_restart := fun _ h => List.mem_cons_of_mem _ (List.mem_append_right _ h)
  have hf_19 := hts (.fieldLink RX3 19 "DerDesk" "writer" "LDerDesk$Writer;") (by decide +kernel)
  have hP : va_P (dC, dI) vwCl ((wK cA k0 r0 v0) ++ (wR cA r0 r1 r2 r3 r4 r5 r6 row rs tg st ln pa nd ar lv of) ++ (wW cA v0 v1 v2 bt wz op dp)) s.heap := hP
  refine lv_aload_n hx hb dX3_restart_0 rfl (lv_at hl 0 rfl) ?_
  refine va_get (D := (dC, dI)) (ci := 2) (v := .ref v0) (C := RX3) (T := TX3) (N := 2) hx hb hts hinX3 hown hK hP 0 rfl rfl 1 (by decide) hf_19 (fun _ h9 => h9) rfl dX3_restart_1 ?_
  refine cl_Vv (As := []) (rest := []) (wr := [(k0, .inr (2, [.ref r0, .ref v0])), (r0, .inr (0, [.ref r1, .int (nI rs), .ref r2, .ref r3, .ref r4, .ref r5, .int (nI nd), .ref r6, .int (nI lv), .int of])), (r1, .inl (cA, 300, .inl (nA row))), (r2, .inl (cA, 64, .inl (nA tg))), (r3, .inl (cA, 64, .inl (nA st))), (r4, .inl (cA, 64, .inl (nA ln))), (r5, .inl (cA, 64, .inl (pa))), (r6, .inl (cA, 16, .inl (nA ar)))]) ⟨hx, hb, hml, hown, hts⟩ (k_X2_clear l dC dI cA v0 v1 v2 bt wz op dp _ ) (cwV 0 hts gX3_restart_X2_clear rfl rfl rfl (by decide +kernel) ⟨Nat.le_of_ble_eq_true rfl, Nat.le_of_ble_eq_true rfl⟩) hK hP hD hS hA [8, 9, 10] [0, 1, 2, 3, 4, 5, 6, 7] rfl rfl (by decide) (by decide) (by decide) (ci := 1) (q0 := 0) rfl rfl rfl rfl hl.1 rfl (Nat.le_of_ble_eq_true rfl) dX3_restart_4 ⟨Nat.le_of_ble_eq_true rfl, Nat.le_of_ble_eq_true rfl⟩ (fun u_1 H locs hw_1 hP hD hS => ?_)
  obtain ⟨wz2_1, dp2_1⟩ := u_1
  have hP : va_P (dC, dI) vwCl ((wK cA k0 r0 v0) ++ (wR cA r0 r1 r2 r3 r4 r5 r6 row rs tg st ln pa nd ar lv of) ++ (wW cA v0 v1 v2 bt wz2_1 op dp2_1)) H := hP
  have hD : va_D A ((wK cA k0 r0 v0) ++ (wR cA r0 r1 r2 r3 r4 r5 r6 row rs tg st ln pa nd ar lv of) ++ (wW cA v0 v1 v2 bt wz2_1 op dp2_1)) := hD
  have hw_1 : wz2_1 = 0 ∧ dp2_1 = 0 := hw_1
  have hP9 : va_P (dC, dI) vwCl (vX3_restart cA k0 r0 v0 r1 r2 r3 r4 r5 r6 row rs tg st ln pa nd ar lv of v1 v2 bt wz op dp (wz2_1, dp2_1)) _ := hP
  have hD9 : va_D A (vX3_restart cA k0 r0 v0 r1 r2 r3 r4 r5 r6 row rs tg st ln pa nd ar lv of v1 v2 bt wz op dp (wz2_1, dp2_1)) := hD
  have hq9 : pX3_restart k0 r0 v0 r1 r2 r3 r4 r5 r6 row rs tg st ln pa nd ar lv of v1 v2 bt wz op dp (wz2_1, dp2_1) := hw_1
  exact W.vret hx hb hr (fun t ht hW => ⟨⟨(wz2_1, dp2_1), rfl, hq9, by rw [ht]; exact hP9, va_K.moved hW.alike hK, hD9⟩, hS.F ht⟩) hS.2.2 dX3_restart_7
abbrev pX3_offence (k0 : Nat) (r0 : Nat) (v0 : Nat) (r1 : Nat) (r2 : Nat) (r3 : Nat) (r4 : Nat) (r5 : Nat) (r6 : Nat) (row : Nat → Nat) (rs : Nat) (tg : Nat → Nat) (st : Nat → Nat) (ln : Nat → Nat) (pa : Nat → Int32) (nd : Nat) (ar : Nat → Nat) (lv : Nat) (of : Int32) (v1 : Nat) (v2 : Nat) (bt : Nat → Nat) (wz : Nat) (op : Nat → Nat) (dp : Nat) : Int32 → Unit → Prop := fun (r : Int32) (u : Unit) => r = of
abbrev vX3_offence (cA : ClassId) (k0 : Nat) (r0 : Nat) (v0 : Nat) (r1 : Nat) (r2 : Nat) (r3 : Nat) (r4 : Nat) (r5 : Nat) (r6 : Nat) (row : Nat → Nat) (rs : Nat) (tg : Nat → Nat) (st : Nat → Nat) (ln : Nat → Nat) (pa : Nat → Int32) (nd : Nat) (ar : Nat → Nat) (lv : Nat) (of : Int32) (v1 : Nat) (v2 : Nat) (bt : Nat → Nat) (wz : Nat) (op : Nat → Nat) (dp : Nat) : Unit → va_W := fun (u : Unit) => (wK cA k0 r0 v0) ++ (wR cA r0 r1 r2 r3 r4 r5 r6 row rs tg st ln pa nd ar lv of) ++ (wW cA v0 v1 v2 bt wz op dp)
abbrev qX3_offence (dC : Nat → ClassId) (dI : Nat → Nat → Nat) (cA : ClassId) (A : Nat → Prop) (k0 : Nat) (r0 : Nat) (v0 : Nat) (r1 : Nat) (r2 : Nat) (r3 : Nat) (r4 : Nat) (r5 : Nat) (r6 : Nat) (row : Nat → Nat) (rs : Nat) (tg : Nat → Nat) (st : Nat → Nat) (ln : Nat → Nat) (pa : Nat → Int32) (nd : Nat) (ar : Nat → Nat) (lv : Nat) (of : Int32) (v1 : Nat) (v2 : Nat) (bt : Nat → Nat) (wz : Nat) (op : Nat → Nat) (dp : Nat) : Array Value → State → Outcome → State → Prop := va_Qi (pX3_offence k0 r0 v0 r1 r2 r3 r4 r5 r6 row rs tg st ln pa nd ar lv of v1 v2 bt wz op dp) (fun u => cAft dC dI cA A (vX3_offence cA k0 r0 v0 r1 r2 r3 r4 r5 r6 row rs tg st ln pa nd ar lv of v1 v2 bt wz op dp u)) A
set_option maxHeartbeats 4000000 in
set_option maxRecDepth 100000 in
theorem k_X3_offence (l : Launch) (dC : Nat → ClassId) (dI : Nat → Nat → Nat) (cA : ClassId) (k0 : Nat) (r0 : Nat) (v0 : Nat) (r1 : Nat) (r2 : Nat) (r3 : Nat) (r4 : Nat) (r5 : Nat) (r6 : Nat) (row : Nat → Nat) (rs : Nat) (tg : Nat → Nat) (st : Nat → Nat) (ln : Nat → Nat) (pa : Nat → Int32) (nd : Nat) (ar : Nat → Nat) (lv : Nat) (of : Int32) (v1 : Nat) (v2 : Nat) (bt : Nat → Nat) (wz : Nat) (op : Nat → Nat) (dp : Nat) (sz : Nat)  : Met l yX3_offence wsX3_offence ({ frames := 0, cells := 0, slots := 0, locals := 0 } : Room) (va_Pc [.ref k0] (fun U => cPre dC dI cA ((wK cA k0 r0 v0) ++ (wR cA r0 r1 r2 r3 r4 r5 r6 row rs tg st ln pa nd ar lv of) ++ (wW cA v0 v1 v2 bt wz op dp)) sz U ∧ nestP U)) (qX3_offence dC dI cA (va_A ((wK cA k0 r0 v0) ++ (wR cA r0 r1 r2 r3 r4 r5 r6 row rs tg st ln pa nd ar lv of) ++ (wW cA v0 v1 v2 bt wz op dp)) sz) k0 r0 v0 r1 r2 r3 r4 r5 r6 row rs tg st ln pa nd ar lv of v1 v2 bt wz op dp) 0 0 (va_A ((wK cA k0 r0 v0) ++ (wR cA r0 r1 r2 r3 r4 r5 r6 row rs tg st ln pa nd ar lv of) ++ (wW cA v0 v1 v2 bt wz op dp)) sz) := by
  refine Met.ofW (cc := cX3_offence) (maxL := 1) (ret := (some .int)) (by decide) rfl ?_
  intro p e s m args below meth c s₁ B hml hv
  obtain ⟨rfl, ⟨hsz, hP, hK, hD0⟩, hN⟩ := hv
  have hx := B.exec
  have hb := B.bytes
  have hr := B.returns
  have hts := atoms_spec (ws := wsX3_offence) B.pre
  have hown : s.vm.findClass RX3 = some m.cls := findClass_of_methodNamed B.named
  have hlocks := B.notSynchronized
  subst hsz
  have hD := hD0.self (sz := s.heap.size)
  generalize hAe : va_A ((wK cA k0 r0 v0) ++ (wR cA r0 r1 r2 r3 r4 r5 r6 row rs tg st ln pa nd ar lv of) ++ (wW cA v0 v1 v2 bt wz op dp)) s.heap.size = A at hD ⊢
  have hA : ∀ q : Nat, s.heap.size ≤ q → A q := fun q h => by rw [← hAe]; exact Or.inr h
  have hS : va_S A s.heap s.heap [] := va_S.rf
  have hl := lv_entry ([.ref k0]) (n := 1) (Nat.le_of_ble_eq_true rfl)
  rw [lg_entry_eq]
  generalize (lg_sl ([.ref k0]) ++ List.replicate (1 - (lg_sl ([.ref k0])).length) Slot.unset).toArray = ls at hl ⊢
  have hl : lv_has ls 1 [(0, .ref k0)] := hl
  have hinX3 : ∀ w ∈ wsX30, w ∈ wsX3_offence := fun _ h => List.mem_cons_of_mem _ (List.mem_append_left _ (List.mem_append_right _ h))
  have hinX0 : ∀ w ∈ wsX00, w ∈ wsX3_offence := fun _ h => List.mem_cons_of_mem _ (List.mem_append_right _ h)
  have hf_10 := hts (.fieldLink RX3 10 "DerDesk" "reader" "LDerDesk$Reader;") (by decide +kernel)
  have hf_31 : (Cond.fieldLinkNest RX3 31 "DerDesk$Reader" "offencePlace" "I" "DerDesk").before ([.ref k0] : List Value).toArray s = true := va_Nw.use rfl (hN _ (by decide +kernel))
  have hP : va_P (dC, dI) vwCl ((wK cA k0 r0 v0) ++ (wR cA r0 r1 r2 r3 r4 r5 r6 row rs tg st ln pa nd ar lv of) ++ (wW cA v0 v1 v2 bt wz op dp)) s.heap := hP
  refine lv_aload_n hx hb dX3_offence_0 rfl (lv_at hl 0 rfl) ?_
  refine va_get (D := (dC, dI)) (ci := 2) (v := .ref r0) (C := RX3) (T := TX3) (N := 2) hx hb hts hinX3 hown hK hP 0 rfl rfl 0 (by decide) hf_10 (fun _ h9 => h9) rfl dX3_offence_1 ?_
  refine va_getN (D := (dC, dI)) (ci := 0) (v := .int of) (C := RX0) (T := TX0) (N := 10) hx hb hts hinX0 hown hK hP 1 rfl rfl 9 (by decide) hf_31 (fun _ h9 => h9) rfl dX3_offence_4 ?_
  have hP9 : va_P (dC, dI) vwCl (vX3_offence cA k0 r0 v0 r1 r2 r3 r4 r5 r6 row rs tg st ln pa nd ar lv of v1 v2 bt wz op dp ()) _ := hP
  have hD9 : va_D A (vX3_offence cA k0 r0 v0 r1 r2 r3 r4 r5 r6 row rs tg st ln pa nd ar lv of v1 v2 bt wz op dp ()) := hD
  have hq9 : pX3_offence k0 r0 v0 r1 r2 r3 r4 r5 r6 row rs tg st ln pa nd ar lv of v1 v2 bt wz op dp (of) () := rfl
  exact W.iret (v := of) hx hb hr (fun t ht hW => ⟨⟨of, (), rfl, hq9, by rw [ht]; exact hP9, va_K.moved hW.alike hK, hD9⟩, hS.F ht⟩) hS.2.2 dX3_offence_7
abbrev pX3_nodeCount (k0 : Nat) (r0 : Nat) (v0 : Nat) (r1 : Nat) (r2 : Nat) (r3 : Nat) (r4 : Nat) (r5 : Nat) (r6 : Nat) (row : Nat → Nat) (rs : Nat) (tg : Nat → Nat) (st : Nat → Nat) (ln : Nat → Nat) (pa : Nat → Int32) (nd : Nat) (ar : Nat → Nat) (lv : Nat) (of : Int32) (v1 : Nat) (v2 : Nat) (bt : Nat → Nat) (wz : Nat) (op : Nat → Nat) (dp : Nat) : Int32 → Unit → Prop := fun (r : Int32) (u : Unit) => r = nI nd
abbrev vX3_nodeCount (cA : ClassId) (k0 : Nat) (r0 : Nat) (v0 : Nat) (r1 : Nat) (r2 : Nat) (r3 : Nat) (r4 : Nat) (r5 : Nat) (r6 : Nat) (row : Nat → Nat) (rs : Nat) (tg : Nat → Nat) (st : Nat → Nat) (ln : Nat → Nat) (pa : Nat → Int32) (nd : Nat) (ar : Nat → Nat) (lv : Nat) (of : Int32) (v1 : Nat) (v2 : Nat) (bt : Nat → Nat) (wz : Nat) (op : Nat → Nat) (dp : Nat) : Unit → va_W := fun (u : Unit) => (wK cA k0 r0 v0) ++ (wR cA r0 r1 r2 r3 r4 r5 r6 row rs tg st ln pa nd ar lv of) ++ (wW cA v0 v1 v2 bt wz op dp)
abbrev qX3_nodeCount (dC : Nat → ClassId) (dI : Nat → Nat → Nat) (cA : ClassId) (A : Nat → Prop) (k0 : Nat) (r0 : Nat) (v0 : Nat) (r1 : Nat) (r2 : Nat) (r3 : Nat) (r4 : Nat) (r5 : Nat) (r6 : Nat) (row : Nat → Nat) (rs : Nat) (tg : Nat → Nat) (st : Nat → Nat) (ln : Nat → Nat) (pa : Nat → Int32) (nd : Nat) (ar : Nat → Nat) (lv : Nat) (of : Int32) (v1 : Nat) (v2 : Nat) (bt : Nat → Nat) (wz : Nat) (op : Nat → Nat) (dp : Nat) : Array Value → State → Outcome → State → Prop := va_Qi (pX3_nodeCount k0 r0 v0 r1 r2 r3 r4 r5 r6 row rs tg st ln pa nd ar lv of v1 v2 bt wz op dp) (fun u => cAft dC dI cA A (vX3_nodeCount cA k0 r0 v0 r1 r2 r3 r4 r5 r6 row rs tg st ln pa nd ar lv of v1 v2 bt wz op dp u)) A
set_option maxHeartbeats 4000000 in
set_option maxRecDepth 100000 in
theorem k_X3_nodeCount (l : Launch) (dC : Nat → ClassId) (dI : Nat → Nat → Nat) (cA : ClassId) (k0 : Nat) (r0 : Nat) (v0 : Nat) (r1 : Nat) (r2 : Nat) (r3 : Nat) (r4 : Nat) (r5 : Nat) (r6 : Nat) (row : Nat → Nat) (rs : Nat) (tg : Nat → Nat) (st : Nat → Nat) (ln : Nat → Nat) (pa : Nat → Int32) (nd : Nat) (ar : Nat → Nat) (lv : Nat) (of : Int32) (v1 : Nat) (v2 : Nat) (bt : Nat → Nat) (wz : Nat) (op : Nat → Nat) (dp : Nat) (sz : Nat)  : Met l yX3_nodeCount wsX3_nodeCount ({ frames := 0, cells := 0, slots := 0, locals := 0 } : Room) (va_Pc [.ref k0] (fun U => cPre dC dI cA ((wK cA k0 r0 v0) ++ (wR cA r0 r1 r2 r3 r4 r5 r6 row rs tg st ln pa nd ar lv of) ++ (wW cA v0 v1 v2 bt wz op dp)) sz U ∧ nestP U)) (qX3_nodeCount dC dI cA (va_A ((wK cA k0 r0 v0) ++ (wR cA r0 r1 r2 r3 r4 r5 r6 row rs tg st ln pa nd ar lv of) ++ (wW cA v0 v1 v2 bt wz op dp)) sz) k0 r0 v0 r1 r2 r3 r4 r5 r6 row rs tg st ln pa nd ar lv of v1 v2 bt wz op dp) 0 0 (va_A ((wK cA k0 r0 v0) ++ (wR cA r0 r1 r2 r3 r4 r5 r6 row rs tg st ln pa nd ar lv of) ++ (wW cA v0 v1 v2 bt wz op dp)) sz) := by
  refine Met.ofW (cc := cX3_nodeCount) (maxL := 1) (ret := (some .int)) (by decide) rfl ?_
  intro p e s m args below meth c s₁ B hml hv
  obtain ⟨rfl, ⟨hsz, hP, hK, hD0⟩, hN⟩ := hv
  have hx := B.exec
  have hb := B.bytes
  have hr := B.returns
  have hts := atoms_spec (ws := wsX3_nodeCount) B.pre
  have hown : s.vm.findClass RX3 = some m.cls := findClass_of_methodNamed B.named
  have hlocks := B.notSynchronized
  subst hsz
  have hD := hD0.self (sz := s.heap.size)
  generalize hAe : va_A ((wK cA k0 r0 v0) ++ (wR cA r0 r1 r2 r3 r4 r5 r6 row rs tg st ln pa nd ar lv of) ++ (wW cA v0 v1 v2 bt wz op dp)) s.heap.size = A at hD ⊢
  have hA : ∀ q : Nat, s.heap.size ≤ q → A q := fun q h => by rw [← hAe]; exact Or.inr h
  have hS : va_S A s.heap s.heap [] := va_S.rf
  have hl := lv_entry ([.ref k0]) (n := 1) (Nat.le_of_ble_eq_true rfl)
  rw [lg_entry_eq]
  generalize (lg_sl ([.ref k0]) ++ List.replicate (1 - (lg_sl ([.ref k0])).length) Slot.unset).toArray = ls at hl ⊢
  have hl : lv_has ls 1 [(0, .ref k0)] := hl
  have hinX3 : ∀ w ∈ wsX30, w ∈ wsX3_nodeCount := fun _ h => List.mem_cons_of_mem _ (List.mem_append_left _ (List.mem_append_right _ h))
  have hinX0 : ∀ w ∈ wsX00, w ∈ wsX3_nodeCount := fun _ h => List.mem_cons_of_mem _ (List.mem_append_right _ h)
  have hf_10 := hts (.fieldLink RX3 10 "DerDesk" "reader" "LDerDesk$Reader;") (by decide +kernel)
  have hf_35 : (Cond.fieldLinkNest RX3 35 "DerDesk$Reader" "nodes" "I" "DerDesk").before ([.ref k0] : List Value).toArray s = true := va_Nw.use rfl (hN _ (by decide +kernel))
  have hP : va_P (dC, dI) vwCl ((wK cA k0 r0 v0) ++ (wR cA r0 r1 r2 r3 r4 r5 r6 row rs tg st ln pa nd ar lv of) ++ (wW cA v0 v1 v2 bt wz op dp)) s.heap := hP
  refine lv_aload_n hx hb dX3_nodeCount_0 rfl (lv_at hl 0 rfl) ?_
  refine va_get (D := (dC, dI)) (ci := 2) (v := .ref r0) (C := RX3) (T := TX3) (N := 2) hx hb hts hinX3 hown hK hP 0 rfl rfl 0 (by decide) hf_10 (fun _ h9 => h9) rfl dX3_nodeCount_1 ?_
  refine va_getN (D := (dC, dI)) (ci := 0) (v := .int (nI nd)) (C := RX0) (T := TX0) (N := 10) hx hb hts hinX0 hown hK hP 1 rfl rfl 6 (by decide) hf_35 (fun _ h9 => h9) rfl dX3_nodeCount_4 ?_
  have hP9 : va_P (dC, dI) vwCl (vX3_nodeCount cA k0 r0 v0 r1 r2 r3 r4 r5 r6 row rs tg st ln pa nd ar lv of v1 v2 bt wz op dp ()) _ := hP
  have hD9 : va_D A (vX3_nodeCount cA k0 r0 v0 r1 r2 r3 r4 r5 r6 row rs tg st ln pa nd ar lv of v1 v2 bt wz op dp ()) := hD
  have hq9 : pX3_nodeCount k0 r0 v0 r1 r2 r3 r4 r5 r6 row rs tg st ln pa nd ar lv of v1 v2 bt wz op dp (nI nd) () := rfl
  exact W.iret (v := nI nd) hx hb hr (fun t ht hW => ⟨⟨nI nd, (), rfl, hq9, by rw [ht]; exact hP9, va_K.moved hW.alike hK, hD9⟩, hS.F ht⟩) hS.2.2 dX3_nodeCount_7
abbrev pX3_outSize (k0 : Nat) (r0 : Nat) (v0 : Nat) (r1 : Nat) (r2 : Nat) (r3 : Nat) (r4 : Nat) (r5 : Nat) (r6 : Nat) (row : Nat → Nat) (rs : Nat) (tg : Nat → Nat) (st : Nat → Nat) (ln : Nat → Nat) (pa : Nat → Int32) (nd : Nat) (ar : Nat → Nat) (lv : Nat) (of : Int32) (v1 : Nat) (v2 : Nat) (bt : Nat → Nat) (wz : Nat) (op : Nat → Nat) (dp : Nat) : Int32 → Unit → Prop := fun (r : Int32) (u : Unit) => r = nI wz
abbrev vX3_outSize (cA : ClassId) (k0 : Nat) (r0 : Nat) (v0 : Nat) (r1 : Nat) (r2 : Nat) (r3 : Nat) (r4 : Nat) (r5 : Nat) (r6 : Nat) (row : Nat → Nat) (rs : Nat) (tg : Nat → Nat) (st : Nat → Nat) (ln : Nat → Nat) (pa : Nat → Int32) (nd : Nat) (ar : Nat → Nat) (lv : Nat) (of : Int32) (v1 : Nat) (v2 : Nat) (bt : Nat → Nat) (wz : Nat) (op : Nat → Nat) (dp : Nat) : Unit → va_W := fun (u : Unit) => (wK cA k0 r0 v0) ++ (wR cA r0 r1 r2 r3 r4 r5 r6 row rs tg st ln pa nd ar lv of) ++ (wW cA v0 v1 v2 bt wz op dp)
abbrev qX3_outSize (dC : Nat → ClassId) (dI : Nat → Nat → Nat) (cA : ClassId) (A : Nat → Prop) (k0 : Nat) (r0 : Nat) (v0 : Nat) (r1 : Nat) (r2 : Nat) (r3 : Nat) (r4 : Nat) (r5 : Nat) (r6 : Nat) (row : Nat → Nat) (rs : Nat) (tg : Nat → Nat) (st : Nat → Nat) (ln : Nat → Nat) (pa : Nat → Int32) (nd : Nat) (ar : Nat → Nat) (lv : Nat) (of : Int32) (v1 : Nat) (v2 : Nat) (bt : Nat → Nat) (wz : Nat) (op : Nat → Nat) (dp : Nat) : Array Value → State → Outcome → State → Prop := va_Qi (pX3_outSize k0 r0 v0 r1 r2 r3 r4 r5 r6 row rs tg st ln pa nd ar lv of v1 v2 bt wz op dp) (fun u => cAft dC dI cA A (vX3_outSize cA k0 r0 v0 r1 r2 r3 r4 r5 r6 row rs tg st ln pa nd ar lv of v1 v2 bt wz op dp u)) A
set_option maxHeartbeats 4000000 in
set_option maxRecDepth 100000 in
theorem k_X3_outSize (l : Launch) (dC : Nat → ClassId) (dI : Nat → Nat → Nat) (cA : ClassId) (k0 : Nat) (r0 : Nat) (v0 : Nat) (r1 : Nat) (r2 : Nat) (r3 : Nat) (r4 : Nat) (r5 : Nat) (r6 : Nat) (row : Nat → Nat) (rs : Nat) (tg : Nat → Nat) (st : Nat → Nat) (ln : Nat → Nat) (pa : Nat → Int32) (nd : Nat) (ar : Nat → Nat) (lv : Nat) (of : Int32) (v1 : Nat) (v2 : Nat) (bt : Nat → Nat) (wz : Nat) (op : Nat → Nat) (dp : Nat) (sz : Nat)  : Met l yX3_outSize wsX3_outSize ({ frames := 0, cells := 0, slots := 0, locals := 0 } : Room) (va_Pc [.ref k0] (fun U => cPre dC dI cA ((wK cA k0 r0 v0) ++ (wR cA r0 r1 r2 r3 r4 r5 r6 row rs tg st ln pa nd ar lv of) ++ (wW cA v0 v1 v2 bt wz op dp)) sz U ∧ nestP U)) (qX3_outSize dC dI cA (va_A ((wK cA k0 r0 v0) ++ (wR cA r0 r1 r2 r3 r4 r5 r6 row rs tg st ln pa nd ar lv of) ++ (wW cA v0 v1 v2 bt wz op dp)) sz) k0 r0 v0 r1 r2 r3 r4 r5 r6 row rs tg st ln pa nd ar lv of v1 v2 bt wz op dp) 0 0 (va_A ((wK cA k0 r0 v0) ++ (wR cA r0 r1 r2 r3 r4 r5 r6 row rs tg st ln pa nd ar lv of) ++ (wW cA v0 v1 v2 bt wz op dp)) sz) := by
  refine Met.ofW (cc := cX3_outSize) (maxL := 1) (ret := (some .int)) (by decide) rfl ?_
  intro p e s m args below meth c s₁ B hml hv
  obtain ⟨rfl, ⟨hsz, hP, hK, hD0⟩, hN⟩ := hv
  have hx := B.exec
  have hb := B.bytes
  have hr := B.returns
  have hts := atoms_spec (ws := wsX3_outSize) B.pre
  have hown : s.vm.findClass RX3 = some m.cls := findClass_of_methodNamed B.named
  have hlocks := B.notSynchronized
  subst hsz
  have hD := hD0.self (sz := s.heap.size)
  generalize hAe : va_A ((wK cA k0 r0 v0) ++ (wR cA r0 r1 r2 r3 r4 r5 r6 row rs tg st ln pa nd ar lv of) ++ (wW cA v0 v1 v2 bt wz op dp)) s.heap.size = A at hD ⊢
  have hA : ∀ q : Nat, s.heap.size ≤ q → A q := fun q h => by rw [← hAe]; exact Or.inr h
  have hS : va_S A s.heap s.heap [] := va_S.rf
  have hl := lv_entry ([.ref k0]) (n := 1) (Nat.le_of_ble_eq_true rfl)
  rw [lg_entry_eq]
  generalize (lg_sl ([.ref k0]) ++ List.replicate (1 - (lg_sl ([.ref k0])).length) Slot.unset).toArray = ls at hl ⊢
  have hl : lv_has ls 1 [(0, .ref k0)] := hl
  have hinX3 : ∀ w ∈ wsX30, w ∈ wsX3_outSize := fun _ h => List.mem_cons_of_mem _ (List.mem_append_left _ (List.mem_append_right _ h))
  have hinX2 : ∀ w ∈ wsX20, w ∈ wsX3_outSize := fun _ h => List.mem_cons_of_mem _ (List.mem_append_right _ h)
  have hf_19 := hts (.fieldLink RX3 19 "DerDesk" "writer" "LDerDesk$Writer;") (by decide +kernel)
  have hf_85 : (Cond.fieldLinkNest RX3 85 "DerDesk$Writer" "size" "I" "DerDesk").before ([.ref k0] : List Value).toArray s = true := va_Nw.use rfl (hN _ (by decide +kernel))
  have hP : va_P (dC, dI) vwCl ((wK cA k0 r0 v0) ++ (wR cA r0 r1 r2 r3 r4 r5 r6 row rs tg st ln pa nd ar lv of) ++ (wW cA v0 v1 v2 bt wz op dp)) s.heap := hP
  refine lv_aload_n hx hb dX3_outSize_0 rfl (lv_at hl 0 rfl) ?_
  refine va_get (D := (dC, dI)) (ci := 2) (v := .ref v0) (C := RX3) (T := TX3) (N := 2) hx hb hts hinX3 hown hK hP 0 rfl rfl 1 (by decide) hf_19 (fun _ h9 => h9) rfl dX3_outSize_1 ?_
  refine va_getN (D := (dC, dI)) (ci := 1) (v := .int (nI wz)) (C := RX2) (T := TX2) (N := 4) hx hb hts hinX2 hown hK hP 8 rfl rfl 1 (by decide) hf_85 (fun _ h9 => h9) rfl dX3_outSize_4 ?_
  have hP9 : va_P (dC, dI) vwCl (vX3_outSize cA k0 r0 v0 r1 r2 r3 r4 r5 r6 row rs tg st ln pa nd ar lv of v1 v2 bt wz op dp ()) _ := hP
  have hD9 : va_D A (vX3_outSize cA k0 r0 v0 r1 r2 r3 r4 r5 r6 row rs tg st ln pa nd ar lv of v1 v2 bt wz op dp ()) := hD
  have hq9 : pX3_outSize k0 r0 v0 r1 r2 r3 r4 r5 r6 row rs tg st ln pa nd ar lv of v1 v2 bt wz op dp (nI wz) () := rfl
  exact W.iret (v := nI wz) hx hb hr (fun t ht hW => ⟨⟨nI wz, (), rfl, hq9, by rw [ht]; exact hP9, va_K.moved hW.alike hK, hD9⟩, hS.F ht⟩) hS.2.2 dX3_outSize_7
abbrev pX3_depth (k0 : Nat) (r0 : Nat) (v0 : Nat) (r1 : Nat) (r2 : Nat) (r3 : Nat) (r4 : Nat) (r5 : Nat) (r6 : Nat) (row : Nat → Nat) (rs : Nat) (tg : Nat → Nat) (st : Nat → Nat) (ln : Nat → Nat) (pa : Nat → Int32) (nd : Nat) (ar : Nat → Nat) (lv : Nat) (of : Int32) (v1 : Nat) (v2 : Nat) (bt : Nat → Nat) (wz : Nat) (op : Nat → Nat) (dp : Nat) : Int32 → Unit → Prop := fun (r : Int32) (u : Unit) => r = nI dp
abbrev vX3_depth (cA : ClassId) (k0 : Nat) (r0 : Nat) (v0 : Nat) (r1 : Nat) (r2 : Nat) (r3 : Nat) (r4 : Nat) (r5 : Nat) (r6 : Nat) (row : Nat → Nat) (rs : Nat) (tg : Nat → Nat) (st : Nat → Nat) (ln : Nat → Nat) (pa : Nat → Int32) (nd : Nat) (ar : Nat → Nat) (lv : Nat) (of : Int32) (v1 : Nat) (v2 : Nat) (bt : Nat → Nat) (wz : Nat) (op : Nat → Nat) (dp : Nat) : Unit → va_W := fun (u : Unit) => (wK cA k0 r0 v0) ++ (wR cA r0 r1 r2 r3 r4 r5 r6 row rs tg st ln pa nd ar lv of) ++ (wW cA v0 v1 v2 bt wz op dp)
abbrev qX3_depth (dC : Nat → ClassId) (dI : Nat → Nat → Nat) (cA : ClassId) (A : Nat → Prop) (k0 : Nat) (r0 : Nat) (v0 : Nat) (r1 : Nat) (r2 : Nat) (r3 : Nat) (r4 : Nat) (r5 : Nat) (r6 : Nat) (row : Nat → Nat) (rs : Nat) (tg : Nat → Nat) (st : Nat → Nat) (ln : Nat → Nat) (pa : Nat → Int32) (nd : Nat) (ar : Nat → Nat) (lv : Nat) (of : Int32) (v1 : Nat) (v2 : Nat) (bt : Nat → Nat) (wz : Nat) (op : Nat → Nat) (dp : Nat) : Array Value → State → Outcome → State → Prop := va_Qi (pX3_depth k0 r0 v0 r1 r2 r3 r4 r5 r6 row rs tg st ln pa nd ar lv of v1 v2 bt wz op dp) (fun u => cAft dC dI cA A (vX3_depth cA k0 r0 v0 r1 r2 r3 r4 r5 r6 row rs tg st ln pa nd ar lv of v1 v2 bt wz op dp u)) A
set_option maxHeartbeats 4000000 in
set_option maxRecDepth 100000 in
theorem k_X3_depth (l : Launch) (dC : Nat → ClassId) (dI : Nat → Nat → Nat) (cA : ClassId) (k0 : Nat) (r0 : Nat) (v0 : Nat) (r1 : Nat) (r2 : Nat) (r3 : Nat) (r4 : Nat) (r5 : Nat) (r6 : Nat) (row : Nat → Nat) (rs : Nat) (tg : Nat → Nat) (st : Nat → Nat) (ln : Nat → Nat) (pa : Nat → Int32) (nd : Nat) (ar : Nat → Nat) (lv : Nat) (of : Int32) (v1 : Nat) (v2 : Nat) (bt : Nat → Nat) (wz : Nat) (op : Nat → Nat) (dp : Nat) (sz : Nat)  : Met l yX3_depth wsX3_depth ({ frames := 0, cells := 0, slots := 0, locals := 0 } : Room) (va_Pc [.ref k0] (fun U => cPre dC dI cA ((wK cA k0 r0 v0) ++ (wR cA r0 r1 r2 r3 r4 r5 r6 row rs tg st ln pa nd ar lv of) ++ (wW cA v0 v1 v2 bt wz op dp)) sz U ∧ nestP U)) (qX3_depth dC dI cA (va_A ((wK cA k0 r0 v0) ++ (wR cA r0 r1 r2 r3 r4 r5 r6 row rs tg st ln pa nd ar lv of) ++ (wW cA v0 v1 v2 bt wz op dp)) sz) k0 r0 v0 r1 r2 r3 r4 r5 r6 row rs tg st ln pa nd ar lv of v1 v2 bt wz op dp) 0 0 (va_A ((wK cA k0 r0 v0) ++ (wR cA r0 r1 r2 r3 r4 r5 r6 row rs tg st ln pa nd ar lv of) ++ (wW cA v0 v1 v2 bt wz op dp)) sz) := by
  refine Met.ofW (cc := cX3_depth) (maxL := 1) (ret := (some .int)) (by decide) rfl ?_
  intro p e s m args below meth c s₁ B hml hv
  obtain ⟨rfl, ⟨hsz, hP, hK, hD0⟩, hN⟩ := hv
  have hx := B.exec
  have hb := B.bytes
  have hr := B.returns
  have hts := atoms_spec (ws := wsX3_depth) B.pre
  have hown : s.vm.findClass RX3 = some m.cls := findClass_of_methodNamed B.named
  have hlocks := B.notSynchronized
  subst hsz
  have hD := hD0.self (sz := s.heap.size)
  generalize hAe : va_A ((wK cA k0 r0 v0) ++ (wR cA r0 r1 r2 r3 r4 r5 r6 row rs tg st ln pa nd ar lv of) ++ (wW cA v0 v1 v2 bt wz op dp)) s.heap.size = A at hD ⊢
  have hA : ∀ q : Nat, s.heap.size ≤ q → A q := fun q h => by rw [← hAe]; exact Or.inr h
  have hS : va_S A s.heap s.heap [] := va_S.rf
  have hl := lv_entry ([.ref k0]) (n := 1) (Nat.le_of_ble_eq_true rfl)
  rw [lg_entry_eq]
  generalize (lg_sl ([.ref k0]) ++ List.replicate (1 - (lg_sl ([.ref k0])).length) Slot.unset).toArray = ls at hl ⊢
  have hl : lv_has ls 1 [(0, .ref k0)] := hl
  have hinX3 : ∀ w ∈ wsX30, w ∈ wsX3_depth := fun _ h => List.mem_cons_of_mem _ (List.mem_append_left _ (List.mem_append_right _ h))
  have hinX2 : ∀ w ∈ wsX20, w ∈ wsX3_depth := fun _ h => List.mem_cons_of_mem _ (List.mem_append_right _ h)
  have hf_19 := hts (.fieldLink RX3 19 "DerDesk" "writer" "LDerDesk$Writer;") (by decide +kernel)
  have hf_88 : (Cond.fieldLinkNest RX3 88 "DerDesk$Writer" "depth" "I" "DerDesk").before ([.ref k0] : List Value).toArray s = true := va_Nw.use rfl (hN _ (by decide +kernel))
  have hP : va_P (dC, dI) vwCl ((wK cA k0 r0 v0) ++ (wR cA r0 r1 r2 r3 r4 r5 r6 row rs tg st ln pa nd ar lv of) ++ (wW cA v0 v1 v2 bt wz op dp)) s.heap := hP
  refine lv_aload_n hx hb dX3_depth_0 rfl (lv_at hl 0 rfl) ?_
  refine va_get (D := (dC, dI)) (ci := 2) (v := .ref v0) (C := RX3) (T := TX3) (N := 2) hx hb hts hinX3 hown hK hP 0 rfl rfl 1 (by decide) hf_19 (fun _ h9 => h9) rfl dX3_depth_1 ?_
  refine va_getN (D := (dC, dI)) (ci := 1) (v := .int (nI dp)) (C := RX2) (T := TX2) (N := 4) hx hb hts hinX2 hown hK hP 8 rfl rfl 3 (by decide) hf_88 (fun _ h9 => h9) rfl dX3_depth_4 ?_
  have hP9 : va_P (dC, dI) vwCl (vX3_depth cA k0 r0 v0 r1 r2 r3 r4 r5 r6 row rs tg st ln pa nd ar lv of v1 v2 bt wz op dp ()) _ := hP
  have hD9 : va_D A (vX3_depth cA k0 r0 v0 r1 r2 r3 r4 r5 r6 row rs tg st ln pa nd ar lv of v1 v2 bt wz op dp ()) := hD
  have hq9 : pX3_depth k0 r0 v0 r1 r2 r3 r4 r5 r6 row rs tg st ln pa nd ar lv of v1 v2 bt wz op dp (nI dp) () := rfl
  exact W.iret (v := nI dp) hx hb hr (fun t ht hW => ⟨⟨nI dp, (), rfl, hq9, by rw [ht]; exact hP9, va_K.moved hW.alike hK, hD9⟩, hS.F ht⟩) hS.2.2 dX3_depth_7
