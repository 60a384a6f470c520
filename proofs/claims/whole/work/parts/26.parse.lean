abbrev pX4_parse (m0 : Nat) (m1 : Nat) (m2 : Nat) (m3 : Nat) (m4 : Nat) (m5 : Nat) (m6 : Nat) (m7 : Nat) (m8 : Nat) (m9 : Nat) (cd : Int32) (row : Nat → Nat) (sz1 : Nat) (nd : Nat) (tg : Nat → Nat) (st : Nat → Nat) (ln : Nat → Nat) (pa : Nat → Int32) (rd : Nat) (of : Int32) (ar : Nat → Nat) (dp : Nat) (at_ : Nat) (rs : Int32) (fd : Nat) (pl : Int32) (tx : Nat → Nat) (ou : Nat → Nat) (wr : Nat) (op : Nat → Nat) (on : Nat) (dn : Nat) : Int32 → Int32 × Nat × Nat × Int32 × Int32 × Int32 × Nat × (Nat → Nat) × (Nat → Nat) × (Nat → Nat) × (Nat → Int32) × (Nat → Nat) × Nat × Nat × (Nat → Nat) → Prop := fun (r : Int32) (u : Int32 × Nat × Nat × Int32 × Int32 × Int32 × Nat × (Nat → Nat) × (Nat → Nat) × (Nat → Nat) × (Nat → Int32) × (Nat → Nat) × Nat × Nat × (Nat → Nat)) => match u with | (cd2, nd2, rd2, of2, rs2, pl2, fd2, tg2, st2, ln2, pa2, ar2, dp2, at2, tx2) => ((runS row sz1 65 (0, 0, 0, tg, st, ln, ar, pa) = .inr (at2, nd2, dp2, tg2, st2, ln2, ar2, pa2) ∧ r = nI 0 ∧ rd2 = 1 ∧ of2 = -1 ∧ PInv sz1 at2 nd2 dp2 tg2 st2 ln2 ar2 ∧ 0 < nd2) ∨ (runS row sz1 65 (0, 0, 0, tg, st, ln, ar, pa) = .inl (r, of2) ∧ r ≠ 0 ∧ rd2 = 0)) ∧ (∀ j, tg2 j < 256) ∧ (∀ j, st2 j < 1000) ∧ (∀ j, ln2 j < 65536) ∧ (∀ j, ar2 j < 64) ∧ (∀ j, tx2 j < 256) ∧ fd2 ≤ 64 ∧ dp2 ≤ 16 ∧ at2 < 70000 ∧ nd2 ≤ 64 ∧ cd2 = nI 0
abbrev vX4_parse (cA : ClassId) (m0 : Nat) (m1 : Nat) (m2 : Nat) (m3 : Nat) (m4 : Nat) (m5 : Nat) (m6 : Nat) (m7 : Nat) (m8 : Nat) (m9 : Nat) (cd : Int32) (row : Nat → Nat) (sz1 : Nat) (nd : Nat) (tg : Nat → Nat) (st : Nat → Nat) (ln : Nat → Nat) (pa : Nat → Int32) (rd : Nat) (of : Int32) (ar : Nat → Nat) (dp : Nat) (at_ : Nat) (rs : Int32) (fd : Nat) (pl : Int32) (tx : Nat → Nat) (ou : Nat → Nat) (wr : Nat) (op : Nat → Nat) (on : Nat) (dn : Nat) : Int32 × Nat × Nat × Int32 × Int32 × Int32 × Nat × (Nat → Nat) × (Nat → Nat) × (Nat → Nat) × (Nat → Int32) × (Nat → Nat) × Nat × Nat × (Nat → Nat) → va_W := fun (u : Int32 × Nat × Nat × Int32 × Int32 × Int32 × Nat × (Nat → Nat) × (Nat → Nat) × (Nat → Nat) × (Nat → Int32) × (Nat → Nat) × Nat × Nat × (Nat → Nat)) => match u with | (cd2, nd2, rd2, of2, rs2, pl2, fd2, tg2, st2, ln2, pa2, ar2, dp2, at2, tx2) => wM cA m0 m1 m2 m3 m4 m5 m6 m7 m8 m9 cd2 row sz1 nd2 tg2 st2 ln2 pa2 rd2 of2 ar2 dp2 at2 rs2 fd2 pl2 tx2 ou wr op on dn
abbrev qX4_parse (dC : Nat → ClassId) (dI : Nat → Nat → Nat) (cA : ClassId) (A : Nat → Prop) (m0 : Nat) (m1 : Nat) (m2 : Nat) (m3 : Nat) (m4 : Nat) (m5 : Nat) (m6 : Nat) (m7 : Nat) (m8 : Nat) (m9 : Nat) (cd : Int32) (row : Nat → Nat) (sz1 : Nat) (nd : Nat) (tg : Nat → Nat) (st : Nat → Nat) (ln : Nat → Nat) (pa : Nat → Int32) (rd : Nat) (of : Int32) (ar : Nat → Nat) (dp : Nat) (at_ : Nat) (rs : Int32) (fd : Nat) (pl : Int32) (tx : Nat → Nat) (ou : Nat → Nat) (wr : Nat) (op : Nat → Nat) (on : Nat) (dn : Nat) : Array Value → State → Outcome → State → Prop := va_Qi (pX4_parse m0 m1 m2 m3 m4 m5 m6 m7 m8 m9 cd row sz1 nd tg st ln pa rd of ar dp at_ rs fd pl tx ou wr op on dn) (fun u => cAft dC dI cA A (vX4_parse cA m0 m1 m2 m3 m4 m5 m6 m7 m8 m9 cd row sz1 nd tg st ln pa rd of ar dp at_ rs fd pl tx ou wr op on dn u)) A
set_option maxHeartbeats 4000000 in
set_option maxRecDepth 100000 in
theorem k_X4_parse (l : Launch) (dC : Nat → ClassId) (dI : Nat → Nat → Nat) (cA : ClassId) (m0 : Nat) (m1 : Nat) (m2 : Nat) (m3 : Nat) (m4 : Nat) (m5 : Nat) (m6 : Nat) (m7 : Nat) (m8 : Nat) (m9 : Nat) (cd : Int32) (row : Nat → Nat) (sz1 : Nat) (nd : Nat) (tg : Nat → Nat) (st : Nat → Nat) (ln : Nat → Nat) (pa : Nat → Int32) (rd : Nat) (of : Int32) (ar : Nat → Nat) (dp : Nat) (at_ : Nat) (rs : Int32) (fd : Nat) (pl : Int32) (tx : Nat → Nat) (ou : Nat → Nat) (wr : Nat) (op : Nat → Nat) (on : Nat) (dn : Nat) (sz : Nat) (hrow : ∀ j, row j < 256) (htg : ∀ j, tg j < 256) (hst : ∀ j, st j < 1000) (hln : ∀ j, ln j < 65536) (har : ∀ j, ar j < 64) (hsz : sz1 ≤ 300) (htx : ∀ j, tx j < 256) : Met l yX4_parse wsX4_parse ({ frames := 4, cells := 0, slots := 0, locals := 95 } : Room) (va_Pc [.ref m0] (cPre dC dI cA (wM cA m0 m1 m2 m3 m4 m5 m6 m7 m8 m9 cd row sz1 nd tg st ln pa rd of ar dp at_ rs fd pl tx ou wr op on dn) sz)) (qX4_parse dC dI cA (va_A (wM cA m0 m1 m2 m3 m4 m5 m6 m7 m8 m9 cd row sz1 nd tg st ln pa rd of ar dp at_ rs fd pl tx ou wr op on dn) sz) m0 m1 m2 m3 m4 m5 m6 m7 m8 m9 cd row sz1 nd tg st ln pa rd of ar dp at_ rs fd pl tx ou wr op on dn) 0 0 (va_A (wM cA m0 m1 m2 m3 m4 m5 m6 m7 m8 m9 cd row sz1 nd tg st ln pa rd of ar dp at_ rs fd pl tx ou wr op on dn) sz) := by
  refine Met.ofW (cc := cX4_parse) (maxL := 2) (ret := (some .int)) (by decide) rfl ?_
  intro p e s m args below meth c s₁ B hml hv
  obtain ⟨rfl, hsz, hP, hK, hD0⟩ := hv
  have hx := B.exec
  have hb := B.bytes
  have hr := B.returns
  have hts := atoms_spec (ws := wsX4_parse) B.pre
  have hown : s.vm.findClass RX4 = some m.cls := findClass_of_methodNamed B.named
  have hlocks := B.notSynchronized
  subst hsz
  have hD := hD0.self (sz := s.heap.size)
  generalize hAe : va_A (wM cA m0 m1 m2 m3 m4 m5 m6 m7 m8 m9 cd row sz1 nd tg st ln pa rd of ar dp at_ rs fd pl tx ou wr op on dn) s.heap.size = A at hD ⊢
  have hA : ∀ q : Nat, s.heap.size ≤ q → A q := fun q h => by rw [← hAe]; exact Or.inr h
  have hS : va_S A s.heap s.heap [] := va_S.rf
  have hl := lv_entry ([.ref m0]) (n := 2) (Nat.le_of_ble_eq_true rfl)
  rw [lg_entry_eq]
  generalize (lg_sl ([.ref m0]) ++ List.replicate (2 - (lg_sl ([.ref m0])).length) Slot.unset).toArray = ls at hl ⊢
  have hl : lv_has ls 2 [(0, .ref m0)] := hl
  have hinX4 : ∀ w ∈ wsX40, w ∈ wsX4_parse := fun _ h => List.mem_cons_of_mem _ (List.mem_append_right _ h)
  have hf_16 := hts (.fieldLink RX4 16 "DerDeskModel" "starts" "[I") (by decide +kernel)
  have hf_19 := hts (.fieldLink RX4 19 "DerDeskModel" "lengths" "[I") (by decide +kernel)
  have hf_25 := hts (.fieldLink RX4 25 "DerDeskModel" "offence" "I") (by decide +kernel)
  have hf_29 := hts (.fieldLink RX4 29 "DerDeskModel" "around" "[I") (by decide +kernel)
  have hf_41 := hts (.fieldLink RX4 41 "DerDeskModel" "code" "I") (by decide +kernel)
  have hf_48 := hts (.fieldLink RX4 48 "DerDeskModel" "size" "I") (by decide +kernel)
  have hf_51 := hts (.fieldLink RX4 51 "DerDeskModel" "read" "Z") (by decide +kernel)
  have hf_55 := hts (.fieldLink RX4 55 "DerDeskModel" "result" "I") (by decide +kernel)
  have hf_58 := hts (.fieldLink RX4 58 "DerDeskModel" "place" "I") (by decide +kernel)
  have hf_61 := hts (.fieldLink RX4 61 "DerDeskModel" "depth" "I") (by decide +kernel)
  have hf_72 := hts (.fieldLink RX4 72 "DerDeskModel" "at" "I") (by decide +kernel)
  have hf_78 := hts (.fieldLink RX4 78 "DerDeskModel" "found" "I") (by decide +kernel)
  have hf_91 := hts (.fieldLink RX4 91 "DerDeskModel" "nodes" "I") (by decide +kernel)
  have hP : va_P (dC, dI) vwCl (wM cA m0 m1 m2 m3 m4 m5 m6 m7 m8 m9 cd row sz1 nd tg st ln pa rd of ar dp at_ rs fd pl tx ou wr op on dn) s.heap := hP
  refine lv_aload_n hx hb dX4_parse_0 rfl (lv_at hl 0 rfl) ?_
  refine lv_iconst (v := nI 0) hx hb dX4_parse_1 (by decide) ?_
  refine va_put (D := (dC, dI)) (ci := 3) (v := .int (nI 0)) (ty := .int) (C := RX4) (T := TX4) (N := 22) hx hb hts hinX4 tyX4 tyX4_ok nmX4 hown hK hP hD hS 0 rfl rfl 0 (by decide) hf_41 (fun _ h9 => h9) rfl (by decide +kernel) rfl rfl (Nat.le_of_ble_eq_true rfl) dX4_parse_2 (fun H locs hP hD hS => ?_)
  have hP : va_P (dC, dI) vwCl (wM cA m0 m1 m2 m3 m4 m5 m6 m7 m8 m9 (nI 0) row sz1 nd tg st ln pa rd of ar dp at_ rs fd pl tx ou wr op on dn) H := hP
  have hD : va_D A (wM cA m0 m1 m2 m3 m4 m5 m6 m7 m8 m9 (nI 0) row sz1 nd tg st ln pa rd of ar dp at_ rs fd pl tx ou wr op on dn) := hD
  refine lv_aload_n hx hb dX4_parse_5 rfl (lv_at hl 0 rfl) ?_
  refine lv_iconst (v := nI 0) hx hb dX4_parse_6 (by decide) ?_
  refine va_put (D := (dC, dI)) (ci := 3) (v := .int (nI 0)) (ty := .int) (C := RX4) (T := TX4) (N := 22) hx hb hts hinX4 tyX4 tyX4_ok nmX4 hown hK hP hD hS 0 rfl rfl 12 (by decide) hf_72 (fun _ h9 => h9) rfl (by decide +kernel) rfl rfl (Nat.le_of_ble_eq_true rfl) dX4_parse_7 (fun H locs hP hD hS => ?_)
  have hP : va_P (dC, dI) vwCl (wM cA m0 m1 m2 m3 m4 m5 m6 m7 m8 m9 (nI 0) row sz1 nd tg st ln pa rd of ar dp 0 rs fd pl tx ou wr op on dn) H := hP
  have hD : va_D A (wM cA m0 m1 m2 m3 m4 m5 m6 m7 m8 m9 (nI 0) row sz1 nd tg st ln pa rd of ar dp 0 rs fd pl tx ou wr op on dn) := hD
  refine lv_aload_n hx hb dX4_parse_10 rfl (lv_at hl 0 rfl) ?_
  refine lv_iconst (v := nI 0) hx hb dX4_parse_11 (by decide) ?_
  refine va_put (D := (dC, dI)) (ci := 3) (v := .int (nI 0)) (ty := .int) (C := RX4) (T := TX4) (N := 22) hx hb hts hinX4 tyX4 tyX4_ok nmX4 hown hK hP hD hS 0 rfl rfl 11 (by decide) hf_61 (fun _ h9 => h9) rfl (by decide +kernel) rfl rfl (Nat.le_of_ble_eq_true rfl) dX4_parse_12 (fun H locs hP hD hS => ?_)
  have hP : va_P (dC, dI) vwCl (wM cA m0 m1 m2 m3 m4 m5 m6 m7 m8 m9 (nI 0) row sz1 nd tg st ln pa rd of ar 0 0 rs fd pl tx ou wr op on dn) H := hP
  have hD : va_D A (wM cA m0 m1 m2 m3 m4 m5 m6 m7 m8 m9 (nI 0) row sz1 nd tg st ln pa rd of ar 0 0 rs fd pl tx ou wr op on dn) := hD
  refine lv_aload_n hx hb dX4_parse_15 rfl (lv_at hl 0 rfl) ?_
  refine lv_iconst (v := nI 0) hx hb dX4_parse_16 (by decide) ?_
  refine va_put (D := (dC, dI)) (ci := 3) (v := .int (nI 0)) (ty := .int) (C := RX4) (T := TX4) (N := 22) hx hb hts hinX4 tyX4 tyX4_ok nmX4 hown hK hP hD hS 0 rfl rfl 14 (by decide) hf_78 (fun _ h9 => h9) rfl (by decide +kernel) rfl rfl (Nat.le_of_ble_eq_true rfl) dX4_parse_17 (fun H locs hP hD hS => ?_)
  have hP : va_P (dC, dI) vwCl (wM cA m0 m1 m2 m3 m4 m5 m6 m7 m8 m9 (nI 0) row sz1 nd tg st ln pa rd of ar 0 0 rs 0 pl tx ou wr op on dn) H := hP
  have hD : va_D A (wM cA m0 m1 m2 m3 m4 m5 m6 m7 m8 m9 (nI 0) row sz1 nd tg st ln pa rd of ar 0 0 rs 0 pl tx ou wr op on dn) := hD
  refine lv_aload_n hx hb dX4_parse_20 rfl (lv_at hl 0 rfl) ?_
  refine lv_iconst (v := nI 0) hx hb dX4_parse_21 (by decide) ?_
  refine va_put (D := (dC, dI)) (ci := 3) (v := .int (nI 0)) (ty := .int) (C := RX4) (T := TX4) (N := 22) hx hb hts hinX4 tyX4 tyX4_ok nmX4 hown hK hP hD hS 0 rfl rfl 13 (by decide) hf_55 (fun _ h9 => h9) rfl (by decide +kernel) rfl rfl (Nat.le_of_ble_eq_true rfl) dX4_parse_22 (fun H locs hP hD hS => ?_)
  have hP : va_P (dC, dI) vwCl (wM cA m0 m1 m2 m3 m4 m5 m6 m7 m8 m9 (nI 0) row sz1 nd tg st ln pa rd of ar 0 0 (nI 0) 0 pl tx ou wr op on dn) H := hP
  have hD : va_D A (wM cA m0 m1 m2 m3 m4 m5 m6 m7 m8 m9 (nI 0) row sz1 nd tg st ln pa rd of ar 0 0 (nI 0) 0 pl tx ou wr op on dn) := hD
  refine lv_aload_n hx hb dX4_parse_25 rfl (lv_at hl 0 rfl) ?_
  refine lv_iconst (v := (-1)) hx hb dX4_parse_26 (by decide) ?_
  refine va_put (D := (dC, dI)) (ci := 3) (v := .int (-1)) (ty := .int) (C := RX4) (T := TX4) (N := 22) hx hb hts hinX4 tyX4 tyX4_ok nmX4 hown hK hP hD hS 0 rfl rfl 15 (by decide) hf_58 (fun _ h9 => h9) rfl (by decide +kernel) rfl rfl (Nat.le_of_ble_eq_true rfl) dX4_parse_27 (fun H locs hP hD hS => ?_)
  have hP : va_P (dC, dI) vwCl (wM cA m0 m1 m2 m3 m4 m5 m6 m7 m8 m9 (nI 0) row sz1 nd tg st ln pa rd of ar 0 0 (nI 0) 0 (-1) tx ou wr op on dn) H := hP
  have hD : va_D A (wM cA m0 m1 m2 m3 m4 m5 m6 m7 m8 m9 (nI 0) row sz1 nd tg st ln pa rd of ar 0 0 (nI 0) 0 (-1) tx ou wr op on dn) := hD
  refine lv_aload_n hx hb dX4_parse_30 rfl (lv_at hl 0 rfl) ?_
  refine lv_iconst (v := nI 0) hx hb dX4_parse_31 (by decide) ?_
  refine va_put (D := (dC, dI)) (ci := 3) (v := .int (nI 0)) (ty := .boolean) (C := RX4) (T := TX4) (N := 22) hx hb hts hinX4 tyX4 tyX4_ok nmX4 hown hK hP hD hS 0 rfl rfl 8 (by decide) hf_51 (fun _ h9 => h9) rfl (by decide +kernel) rfl rfl (Nat.le_of_ble_eq_true rfl) dX4_parse_32 (fun H locs hP hD hS => ?_)
  have hP : va_P (dC, dI) vwCl (wM cA m0 m1 m2 m3 m4 m5 m6 m7 m8 m9 (nI 0) row sz1 nd tg st ln pa 0 of ar 0 0 (nI 0) 0 (-1) tx ou wr op on dn) H := hP
  have hD : va_D A (wM cA m0 m1 m2 m3 m4 m5 m6 m7 m8 m9 (nI 0) row sz1 nd tg st ln pa 0 of ar 0 0 (nI 0) 0 (-1) tx ou wr op on dn) := hD
  refine lv_aload_n hx hb dX4_parse_35 rfl (lv_at hl 0 rfl) ?_
  refine cl_Vv (As := []) (rest := []) (wr := []) ⟨hx, hb, hml, hown, hts⟩ (k_X4_value l dC dI cA m0 m1 m2 m3 m4 m5 m6 m7 m8 m9 (nI 0) row sz1 nd tg st ln pa 0 of ar 0 0 0 (-1) tx ou wr op on dn _ hrow (by omega) htx (PInv.start htg hst hln har)) (cwV 0 hts gX4_parse_X4_value rfl rfl rfl (by decide +kernel) ⟨Nat.le_of_ble_eq_true rfl, Nat.le_of_ble_eq_true rfl⟩) hK hP hD hS hA [0, 1, 2, 3, 4, 5, 6, 7, 8, 9] [] rfl rfl (by decide) (by decide) (by decide) (ci := 3) (q0 := 0) rfl rfl rfl rfl hl.1 rfl (Nat.le_of_ble_eq_true rfl) dX4_parse_36 ⟨Nat.le_of_ble_eq_true rfl, Nat.le_of_ble_eq_true rfl⟩ (fun u_1 H locs hw_1 hP hD hS => ?_)
  obtain ⟨rs2_1, pl2_1, fd2_1, tg2_1, st2_1, ln2_1, pa2_1, ar2_1, dp2_1, at2_1, tx2_1, xn_1, xa_1⟩ := u_1
  have hP : va_P (dC, dI) vwCl (wM cA m0 m1 m2 m3 m4 m5 m6 m7 m8 m9 (nI 0) row sz1 nd tg2_1 st2_1 ln2_1 pa2_1 0 of ar2_1 dp2_1 at2_1 rs2_1 fd2_1 pl2_1 tx2_1 ou wr op on dn) H := hP
  have hD : va_D A (wM cA m0 m1 m2 m3 m4 m5 m6 m7 m8 m9 (nI 0) row sz1 nd tg2_1 st2_1 ln2_1 pa2_1 0 of ar2_1 dp2_1 at2_1 rs2_1 fd2_1 pl2_1 tx2_1 ou wr op on dn) := hD
  have hw_1 : ((valS row sz1 0 0 ar st ln 0 = .inr (xn_1, xa_1) ∧ rs2_1 = nI 0 ∧ pl2_1 = (-1) ∧ fd2_1 = 0 + 1 ∧ tg2_1 = va_up tg 0 (row 0) ∧ st2_1 = va_up st 0 xa_1 ∧ ln2_1 = va_up ln 0 xn_1 ∧ pa2_1 = upd pa 0 (parI 0 ar) ∧ ar2_1 = nxA row 0 0 0 ar ∧ dp2_1 = nxL row 0 0 ∧ at2_1 = nxP row 0 (xn_1, xa_1)) ∨ (valS row sz1 0 0 ar st ln 0 = .inl (rs2_1, pl2_1) ∧ rs2_1 ≠ 0)) ∧ (∀ j, tg2_1 j < 256) ∧ (∀ j, st2_1 j < 1000) ∧ (∀ j, ln2_1 j < 65536) ∧ (∀ j, ar2_1 j < 64) ∧ (∀ j, tx2_1 j < 256) ∧ fd2_1 ≤ 64 ∧ dp2_1 ≤ 16 ∧ at2_1 < 70000 := hw_1
  obtain ⟨hw_1, hb1, hb2, hb3, hb4, hb5, hb6, hb7, hb8⟩ := hw_1
  rcases hw_1 with ⟨hval_1, e1_1, e2_1, e3_1, e4_1, e5_1, e6_1, e7_1, e8_1, e9_1, e10_1⟩ | ⟨hval_1, hne_1⟩
  · have e1_1 := e1_1.symm
    subst e1_1
    have e2_1 := e2_1.symm
    subst e2_1
    have e3_1 := e3_1.symm
    subst e3_1
    have e4_1 := e4_1.symm
    subst e4_1
    have e5_1 := e5_1.symm
    subst e5_1
    have e6_1 := e6_1.symm
    subst e6_1
    have e7_1 := e7_1.symm
    subst e7_1
    have e8_1 := e8_1.symm
    subst e8_1
    have e9_1 := e9_1.symm
    subst e9_1
    have e10_1 := e10_1.symm
    subst e10_1
    have hval := hval_1
    refine lv_iconst (v := nI 1) hx hb dX4_parse_39 (by decide) ?_
    refine lv_istore_n (lv' := [(1, .int (nI 1)), (0, .ref m0)]) hx hb dX4_parse_40 rfl hl (by decide) rfl (fun ls hl => ?_)
    have lp_41 : ∀ (nf : Nat) (at1 : Nat) (fd1 : Nat) (dp1 : Nat) (tg1 : Nat → Nat) (st1 : Nat → Nat) (ln1 : Nat → Nat) (ar1 : Nat → Nat) (pa1 : Nat → Int32) (tx1 : Nat → Nat), 65 - fd1 < nf → (aftV row sz1 (runS row sz1 65 (0, 0, 0, tg, st, ln, ar, pa)) at1 fd1 dp1 tg1 st1 ln1 ar1 pa1) → (∀ j, tx1 j < 256) → ∀ (H : Heap) (locs : List Loc) (ls : Array Slot), va_P (dC, dI) vwCl (wM cA m0 m1 m2 m3 m4 m5 m6 m7 m8 m9 (nI 0) row sz1 nd tg1 st1 ln1 pa1 0 of ar1 dp1 at1 (nI 0) fd1 (-1) tx1 ou wr op on dn) H → va_D A (wM cA m0 m1 m2 m3 m4 m5 m6 m7 m8 m9 (nI 0) row sz1 nd tg1 st1 ln1 pa1 0 of ar1 dp1 at1 (nI 0) fd1 (-1) tx1 ou wr op on dn) → va_S A s.heap H locs → lv_has ls 2 [(1, .int (nI 1)), (0, .ref m0)] → W p l e (headSpec wsX4_parse ({ frames := 4, cells := 0, slots := 0, locals := 95 } : Room)).room s m ([.ref m0] : List Value).toArray below meth c H locs 0 0 (MQ below (qX4_parse dC dI cA A m0 m1 m2 m3 m4 m5 m6 m7 m8 m9 cd row sz1 nd tg st ln pa rd of ar dp at_ rs fd pl tx ou wr op on dn) ([.ref m0] : List Value).toArray s 0 0 A) (F0 m 41 ls []) := by
      intro nf
      induction nf with
      | zero =>
        intro at1 fd1 dp1 tg1 st1 ln1 ar1 pa1 tx1 hm
        exact absurd hm (Nat.not_lt_zero _)
      | succ nf ih_41 =>
        intro at1 fd1 dp1 tg1 st1 ln1 ar1 pa1 tx1 hm hA9 htx1 H locs ls hP hD hS hl
        obtain ⟨hIp, hR, hf0, hd16⟩ := hA9
        obtain ⟨i1, i2, i3, i4, i5, i6, i7, i8, i9, i10, i11⟩ := id hIp
        refine lv_iload_n hx hb dX4_parse_41 rfl (lv_at hl 0 rfl) ?_
        refine hl_if_eq (tgt := 136) hx hb dX4_parse_42 (by decide) (by omega) (fun c_3 => absurd c_3 (by decide)) (fun c_3 => ?_)
        refine lv_aload_n hx hb dX4_parse_45 rfl (lv_at hl 1 rfl) ?_
        refine va_get (D := (dC, dI)) (ci := 3) (v := .int (nI 0)) (C := RX4) (T := TX4) (N := 22) hx hb hts hinX4 hown hK hP 0 rfl rfl 13 (by decide) hf_55 (fun _ h9 => h9) rfl dX4_parse_46 ?_
        refine hl_if_ne (tgt := 136) hx hb dX4_parse_49 (by decide) (by omega) (fun c_4 => absurd c_4 (by decide)) (fun c_4 => ?_)
        have lp_52 : ∀ (nf : Nat) (dq : Nat), dq < nf → (dq ≤ 16) → (popN st1 ln1 ar1 at1 dq = popN st1 ln1 ar1 at1 dp1) → ∀ (H : Heap) (locs : List Loc) (ls : Array Slot), va_P (dC, dI) vwCl (wM cA m0 m1 m2 m3 m4 m5 m6 m7 m8 m9 (nI 0) row sz1 nd tg1 st1 ln1 pa1 0 of ar1 dq at1 (nI 0) fd1 (-1) tx1 ou wr op on dn) H → va_D A (wM cA m0 m1 m2 m3 m4 m5 m6 m7 m8 m9 (nI 0) row sz1 nd tg1 st1 ln1 pa1 0 of ar1 dq at1 (nI 0) fd1 (-1) tx1 ou wr op on dn) → va_S A s.heap H locs → lv_has ls 2 [(1, .int (nI 1)), (0, .ref m0)] → W p l e (headSpec wsX4_parse ({ frames := 4, cells := 0, slots := 0, locals := 95 } : Room)).room s m ([.ref m0] : List Value).toArray below meth c H locs 0 0 (MQ below (qX4_parse dC dI cA A m0 m1 m2 m3 m4 m5 m6 m7 m8 m9 cd row sz1 nd tg st ln pa rd of ar dp at_ rs fd pl tx ou wr op on dn) ([.ref m0] : List Value).toArray s 0 0 A) (F0 m 52 ls []) := by
          intro nf
          induction nf with
          | zero =>
            intro dq hm
            exact absurd hm (Nat.not_lt_zero _)
          | succ nf ih_52 =>
            intro dq hm hdq hpop H locs ls hP hD hS hl
            refine lv_aload_n hx hb dX4_parse_52 rfl (lv_at hl 1 rfl) ?_
            refine va_get (D := (dC, dI)) (ci := 3) (v := .int (nI dq)) (C := RX4) (T := TX4) (N := 22) hx hb hts hinX4 hown hK hP 0 rfl rfl 11 (by decide) hf_61 (fun _ h9 => h9) rfl dX4_parse_53 ?_
            refine hl_if_le (tgt := 112) hx hb dX4_parse_56 (by decide) (by omega) (fun c_6 => ?_) (fun c_6 => ?_)
            · have hq : popN st1 ln1 ar1 at1 dp1 = dq := by rw [← hpop]; exact popN_stop (by first | (left; omega) | (right; omega))
              have hIq := hIp
              rw [hq] at hIq
              have hRq := hR
              rw [hq] at hRq
              refine lv_aload_n hx hb dX4_parse_112 rfl (lv_at hl 1 rfl) ?_
              refine va_get (D := (dC, dI)) (ci := 3) (v := .int (nI dq)) (C := RX4) (T := TX4) (N := 22) hx hb hts hinX4 hown hK hP 0 rfl rfl 11 (by decide) hf_61 (fun _ h9 => h9) rfl dX4_parse_113 ?_
              refine hl_if_le (tgt := 123) hx hb dX4_parse_116 (by decide) (by omega) (fun c_7 => ?_) (fun c_7 => ?_)
              · have hq0 : dq = 0 := by omega
                rw [if_pos hq0] at hRq
                refine lv_iconst (v := nI 0) hx hb dX4_parse_123 (by decide) ?_
                refine lv_istore_n (lv' := [(1, .int (nI 0)), (0, .ref m0)]) hx hb dX4_parse_124 rfl hl (by decide) rfl (fun ls hl => ?_)
                refine lv_iload_n hx hb dX4_parse_125 rfl (lv_at hl 0 rfl) ?_
                refine hl_if_eq (tgt := 41) hx hb dX4_parse_126 (by decide) (by omega) (fun c_8 => ?_) (fun c_8 => absurd c_8 (by decide))
                refine lv_iload_n hx hb dX4_parse_41 rfl (lv_at hl 0 rfl) ?_
                refine hl_if_eq (tgt := 136) hx hb dX4_parse_42 (by decide) (by omega) (fun c_9 => ?_) (fun c_9 => absurd c_9 (by decide))
                refine lv_aload_n hx hb dX4_parse_136 rfl (lv_at hl 1 rfl) ?_
                refine va_get (D := (dC, dI)) (ci := 3) (v := .int (nI 0)) (C := RX4) (T := TX4) (N := 22) hx hb hts hinX4 hown hK hP 0 rfl rfl 13 (by decide) hf_55 (fun _ h9 => h9) rfl dX4_parse_137 ?_
                refine hl_if_ne (tgt := 164) hx hb dX4_parse_140 (by decide) (by omega) (fun c_10 => absurd c_10 (by decide)) (fun c_10 => ?_)
                refine lv_aload_n hx hb dX4_parse_143 rfl (lv_at hl 1 rfl) ?_
                refine va_get (D := (dC, dI)) (ci := 3) (v := .int (nI at1)) (C := RX4) (T := TX4) (N := 22) hx hb hts hinX4 hown hK hP 0 rfl rfl 12 (by decide) hf_72 (fun _ h9 => h9) rfl dX4_parse_144 ?_
                refine lv_aload_n hx hb dX4_parse_147 rfl (lv_at hl 1 rfl) ?_
                refine va_get (D := (dC, dI)) (ci := 3) (v := .int (nI sz1)) (C := RX4) (T := TX4) (N := 22) hx hb hts hinX4 hown hK hP 0 rfl rfl 2 (by decide) hf_48 (fun _ h9 => h9) rfl dX4_parse_148 ?_
                refine hl_icmp_ge (tgt := 164) hx hb dX4_parse_151 (by decide) (by omega) (by omega) (fun c_11 => ?_) (fun c_11 => ?_)
                · refine lv_aload_n hx hb dX4_parse_164 rfl (lv_at hl 1 rfl) ?_
                  refine lv_aload_n hx hb dX4_parse_165 rfl (lv_at hl 1 rfl) ?_
                  refine va_get (D := (dC, dI)) (ci := 3) (v := .int (-1)) (C := RX4) (T := TX4) (N := 22) hx hb hts hinX4 hown hK hP 0 rfl rfl 15 (by decide) hf_58 (fun _ h9 => h9) rfl dX4_parse_166 ?_
                  refine va_put (D := (dC, dI)) (ci := 3) (v := .int (-1)) (ty := .int) (C := RX4) (T := TX4) (N := 22) hx hb hts hinX4 tyX4 tyX4_ok nmX4 hown hK hP hD hS 0 rfl rfl 9 (by decide) hf_25 (fun _ h9 => h9) rfl (by decide +kernel) rfl rfl (Nat.le_of_ble_eq_true rfl) dX4_parse_169 (fun H locs hP hD hS => ?_)
                  have hP : va_P (dC, dI) vwCl (wM cA m0 m1 m2 m3 m4 m5 m6 m7 m8 m9 (nI 0) row sz1 nd tg1 st1 ln1 pa1 0 (-1) ar1 dq at1 (nI 0) fd1 (-1) tx1 ou wr op on dn) H := hP
                  have hD : va_D A (wM cA m0 m1 m2 m3 m4 m5 m6 m7 m8 m9 (nI 0) row sz1 nd tg1 st1 ln1 pa1 0 (-1) ar1 dq at1 (nI 0) fd1 (-1) tx1 ou wr op on dn) := hD
                  refine lv_aload_n hx hb dX4_parse_172 rfl (lv_at hl 1 rfl) ?_
                  refine lv_aload_n hx hb dX4_parse_173 rfl (lv_at hl 1 rfl) ?_
                  refine va_get (D := (dC, dI)) (ci := 3) (v := .int (nI 0)) (C := RX4) (T := TX4) (N := 22) hx hb hts hinX4 hown hK hP 0 rfl rfl 13 (by decide) hf_55 (fun _ h9 => h9) rfl dX4_parse_174 ?_
                  refine hl_if_ne (tgt := 184) hx hb dX4_parse_177 (by decide) (by omega) (fun c_12 => absurd c_12 (by decide)) (fun c_12 => ?_)
                  refine lv_iconst (v := nI 1) hx hb dX4_parse_180 (by decide) ?_
                  refine lv_goto (tgt := 185) hx hb dX4_parse_181 (by decide) ?_
                  refine va_put (D := (dC, dI)) (ci := 3) (v := .int (nI 1)) (ty := .boolean) (C := RX4) (T := TX4) (N := 22) hx hb hts hinX4 tyX4 tyX4_ok nmX4 hown hK hP hD hS 0 rfl rfl 8 (by decide) hf_51 (fun _ h9 => h9) rfl (by decide +kernel) rfl rfl (Nat.le_of_ble_eq_true rfl) dX4_parse_185 (fun H locs hP hD hS => ?_)
                  have hP : va_P (dC, dI) vwCl (wM cA m0 m1 m2 m3 m4 m5 m6 m7 m8 m9 (nI 0) row sz1 nd tg1 st1 ln1 pa1 1 (-1) ar1 dq at1 (nI 0) fd1 (-1) tx1 ou wr op on dn) H := hP
                  have hD : va_D A (wM cA m0 m1 m2 m3 m4 m5 m6 m7 m8 m9 (nI 0) row sz1 nd tg1 st1 ln1 pa1 1 (-1) ar1 dq at1 (nI 0) fd1 (-1) tx1 ou wr op on dn) := hD
                  refine lv_aload_n hx hb dX4_parse_188 rfl (lv_at hl 1 rfl) ?_
                  refine lv_aload_n hx hb dX4_parse_189 rfl (lv_at hl 1 rfl) ?_
                  refine va_get (D := (dC, dI)) (ci := 3) (v := .int (nI fd1)) (C := RX4) (T := TX4) (N := 22) hx hb hts hinX4 hown hK hP 0 rfl rfl 14 (by decide) hf_78 (fun _ h9 => h9) rfl dX4_parse_190 ?_
                  refine va_put (D := (dC, dI)) (ci := 3) (v := .int (nI fd1)) (ty := .int) (C := RX4) (T := TX4) (N := 22) hx hb hts hinX4 tyX4 tyX4_ok nmX4 hown hK hP hD hS 0 rfl rfl 3 (by decide) hf_91 (fun _ h9 => h9) rfl (by decide +kernel) rfl rfl (Nat.le_of_ble_eq_true rfl) dX4_parse_193 (fun H locs hP hD hS => ?_)
                  have hP : va_P (dC, dI) vwCl (wM cA m0 m1 m2 m3 m4 m5 m6 m7 m8 m9 (nI 0) row sz1 fd1 tg1 st1 ln1 pa1 1 (-1) ar1 dq at1 (nI 0) fd1 (-1) tx1 ou wr op on dn) H := hP
                  have hD : va_D A (wM cA m0 m1 m2 m3 m4 m5 m6 m7 m8 m9 (nI 0) row sz1 fd1 tg1 st1 ln1 pa1 1 (-1) ar1 dq at1 (nI 0) fd1 (-1) tx1 ou wr op on dn) := hD
                  refine lv_aload_n hx hb dX4_parse_196 rfl (lv_at hl 1 rfl) ?_
                  refine va_get (D := (dC, dI)) (ci := 3) (v := .int (nI 0)) (C := RX4) (T := TX4) (N := 22) hx hb hts hinX4 hown hK hP 0 rfl rfl 13 (by decide) hf_55 (fun _ h9 => h9) rfl dX4_parse_197 ?_
                  have hP9 : va_P (dC, dI) vwCl (vX4_parse cA m0 m1 m2 m3 m4 m5 m6 m7 m8 m9 cd row sz1 nd tg st ln pa rd of ar dp at_ rs fd pl tx ou wr op on dn (nI 0, fd1, 1, (-1), nI 0, (-1), fd1, tg1, st1, ln1, pa1, ar1, dq, at1, tx1)) _ := hP
                  have hD9 : va_D A (vX4_parse cA m0 m1 m2 m3 m4 m5 m6 m7 m8 m9 cd row sz1 nd tg st ln pa rd of ar dp at_ rs fd pl tx ou wr op on dn (nI 0, fd1, 1, (-1), nI 0, (-1), fd1, tg1, st1, ln1, pa1, ar1, dq, at1, tx1)) := hD
                  have hq9 : pX4_parse m0 m1 m2 m3 m4 m5 m6 m7 m8 m9 cd row sz1 nd tg st ln pa rd of ar dp at_ rs fd pl tx ou wr op on dn (nI 0) (nI 0, fd1, 1, (-1), nI 0, (-1), fd1, tg1, st1, ln1, pa1, ar1, dq, at1, tx1) := ⟨Or.inl ⟨by rw [hRq, if_neg (by omega)], rfl, rfl, rfl, hIq, hf0⟩, i4, i5, i6, i7, htx1, i1, hdq, by omega, i1, rfl⟩
                  exact W.iret (v := nI 0) hx hb hr (fun t ht hW => ⟨⟨nI 0, (nI 0, fd1, 1, (-1), nI 0, (-1), fd1, tg1, st1, ln1, pa1, ar1, dq, at1, tx1), rfl, hq9, by rw [ht]; exact hP9, va_K.moved hW.alike hK, hD9⟩, hS.F ht⟩) hS.2.2 dX4_parse_200
                · refine lv_aload_n hx hb dX4_parse_154 rfl (lv_at hl 1 rfl) ?_
                  refine lv_bipush (v := (-6)) hx hb dX4_parse_155 (by decide) ?_
                  refine lv_aload_n hx hb dX4_parse_157 rfl (lv_at hl 1 rfl) ?_
                  refine va_get (D := (dC, dI)) (ci := 3) (v := .int (nI at1)) (C := RX4) (T := TX4) (N := 22) hx hb hts hinX4 hown hK hP 0 rfl rfl 12 (by decide) hf_72 (fun _ h9 => h9) rfl dX4_parse_158 ?_
                  refine cl_Vv (As := [.int (-6), .int (nI at1)]) (rest := []) (wr := []) ⟨hx, hb, hml, hown, hts⟩ (k_X4_fail l dC dI cA m0 m1 m2 m3 m4 m5 m6 m7 m8 m9 (nI 0) row sz1 nd tg1 st1 ln1 pa1 0 of ar1 dq at1 (nI 0) fd1 (-1) tx1 ou wr op on dn (-6) (nI at1) _ ) (cwV 2 hts gX4_parse_X4_fail rfl rfl rfl (by decide +kernel) ⟨Nat.le_of_ble_eq_true rfl, Nat.le_of_ble_eq_true rfl⟩) hK hP hD hS hA [0, 1, 2, 3, 4, 5, 6, 7, 8, 9] [] rfl rfl (by decide) (by decide) (by decide) (ci := 3) (q0 := 0) rfl rfl rfl rfl hl.1 rfl (Nat.le_of_ble_eq_true rfl) dX4_parse_161 ⟨Nat.le_of_ble_eq_true rfl, Nat.le_of_ble_eq_true rfl⟩ (fun u_13 H locs hw_13 hP hD hS => ?_)
                  obtain ⟨rs2_13, pl2_13⟩ := u_13
                  have hP : va_P (dC, dI) vwCl (wM cA m0 m1 m2 m3 m4 m5 m6 m7 m8 m9 (nI 0) row sz1 nd tg1 st1 ln1 pa1 0 of ar1 dq at1 rs2_13 fd1 pl2_13 tx1 ou wr op on dn) H := hP
                  have hD : va_D A (wM cA m0 m1 m2 m3 m4 m5 m6 m7 m8 m9 (nI 0) row sz1 nd tg1 st1 ln1 pa1 0 of ar1 dq at1 rs2_13 fd1 pl2_13 tx1 ou wr op on dn) := hD
                  have hw_13 : rs2_13 = (-6) ∧ pl2_13 = (nI at1) := hw_13
                  obtain ⟨e0_13, e1_13⟩ := hw_13
                  have e0_13 := e0_13.symm
                  subst e0_13
                  have e1_13 := e1_13.symm
                  subst e1_13
                  refine lv_aload_n hx hb dX4_parse_164 rfl (lv_at hl 1 rfl) ?_
                  refine lv_aload_n hx hb dX4_parse_165 rfl (lv_at hl 1 rfl) ?_
                  refine va_get (D := (dC, dI)) (ci := 3) (v := .int (nI at1)) (C := RX4) (T := TX4) (N := 22) hx hb hts hinX4 hown hK hP 0 rfl rfl 15 (by decide) hf_58 (fun _ h9 => h9) rfl dX4_parse_166 ?_
                  refine va_put (D := (dC, dI)) (ci := 3) (v := .int (nI at1)) (ty := .int) (C := RX4) (T := TX4) (N := 22) hx hb hts hinX4 tyX4 tyX4_ok nmX4 hown hK hP hD hS 0 rfl rfl 9 (by decide) hf_25 (fun _ h9 => h9) rfl (by decide +kernel) rfl rfl (Nat.le_of_ble_eq_true rfl) dX4_parse_169 (fun H locs hP hD hS => ?_)
                  have hP : va_P (dC, dI) vwCl (wM cA m0 m1 m2 m3 m4 m5 m6 m7 m8 m9 (nI 0) row sz1 nd tg1 st1 ln1 pa1 0 (nI at1) ar1 dq at1 (-6) fd1 (nI at1) tx1 ou wr op on dn) H := hP
                  have hD : va_D A (wM cA m0 m1 m2 m3 m4 m5 m6 m7 m8 m9 (nI 0) row sz1 nd tg1 st1 ln1 pa1 0 (nI at1) ar1 dq at1 (-6) fd1 (nI at1) tx1 ou wr op on dn) := hD
                  refine lv_aload_n hx hb dX4_parse_172 rfl (lv_at hl 1 rfl) ?_
                  refine lv_aload_n hx hb dX4_parse_173 rfl (lv_at hl 1 rfl) ?_
                  refine va_get (D := (dC, dI)) (ci := 3) (v := .int (-6)) (C := RX4) (T := TX4) (N := 22) hx hb hts hinX4 hown hK hP 0 rfl rfl 13 (by decide) hf_55 (fun _ h9 => h9) rfl dX4_parse_174 ?_
                  refine lv_if_ne (tgt := 184) hx hb dX4_parse_177 (by decide) (fun c_14 => ?_) (fun c_14 => absurd c_14 (by decide))
                  refine lv_iconst (v := nI 0) hx hb dX4_parse_184 (by decide) ?_
                  refine va_put (D := (dC, dI)) (ci := 3) (v := .int (nI 0)) (ty := .boolean) (C := RX4) (T := TX4) (N := 22) hx hb hts hinX4 tyX4 tyX4_ok nmX4 hown hK hP hD hS 0 rfl rfl 8 (by decide) hf_51 (fun _ h9 => h9) rfl (by decide +kernel) rfl rfl (Nat.le_of_ble_eq_true rfl) dX4_parse_185 (fun H locs hP hD hS => ?_)
                  have hP : va_P (dC, dI) vwCl (wM cA m0 m1 m2 m3 m4 m5 m6 m7 m8 m9 (nI 0) row sz1 nd tg1 st1 ln1 pa1 0 (nI at1) ar1 dq at1 (-6) fd1 (nI at1) tx1 ou wr op on dn) H := hP
                  have hD : va_D A (wM cA m0 m1 m2 m3 m4 m5 m6 m7 m8 m9 (nI 0) row sz1 nd tg1 st1 ln1 pa1 0 (nI at1) ar1 dq at1 (-6) fd1 (nI at1) tx1 ou wr op on dn) := hD
                  refine lv_aload_n hx hb dX4_parse_188 rfl (lv_at hl 1 rfl) ?_
                  refine lv_aload_n hx hb dX4_parse_189 rfl (lv_at hl 1 rfl) ?_
                  refine va_get (D := (dC, dI)) (ci := 3) (v := .int (nI fd1)) (C := RX4) (T := TX4) (N := 22) hx hb hts hinX4 hown hK hP 0 rfl rfl 14 (by decide) hf_78 (fun _ h9 => h9) rfl dX4_parse_190 ?_
                  refine va_put (D := (dC, dI)) (ci := 3) (v := .int (nI fd1)) (ty := .int) (C := RX4) (T := TX4) (N := 22) hx hb hts hinX4 tyX4 tyX4_ok nmX4 hown hK hP hD hS 0 rfl rfl 3 (by decide) hf_91 (fun _ h9 => h9) rfl (by decide +kernel) rfl rfl (Nat.le_of_ble_eq_true rfl) dX4_parse_193 (fun H locs hP hD hS => ?_)
                  have hP : va_P (dC, dI) vwCl (wM cA m0 m1 m2 m3 m4 m5 m6 m7 m8 m9 (nI 0) row sz1 fd1 tg1 st1 ln1 pa1 0 (nI at1) ar1 dq at1 (-6) fd1 (nI at1) tx1 ou wr op on dn) H := hP
                  have hD : va_D A (wM cA m0 m1 m2 m3 m4 m5 m6 m7 m8 m9 (nI 0) row sz1 fd1 tg1 st1 ln1 pa1 0 (nI at1) ar1 dq at1 (-6) fd1 (nI at1) tx1 ou wr op on dn) := hD
                  refine lv_aload_n hx hb dX4_parse_196 rfl (lv_at hl 1 rfl) ?_
                  refine va_get (D := (dC, dI)) (ci := 3) (v := .int (-6)) (C := RX4) (T := TX4) (N := 22) hx hb hts hinX4 hown hK hP 0 rfl rfl 13 (by decide) hf_55 (fun _ h9 => h9) rfl dX4_parse_197 ?_
                  have hP9 : va_P (dC, dI) vwCl (vX4_parse cA m0 m1 m2 m3 m4 m5 m6 m7 m8 m9 cd row sz1 nd tg st ln pa rd of ar dp at_ rs fd pl tx ou wr op on dn (nI 0, fd1, 0, (nI at1), (-6), (nI at1), fd1, tg1, st1, ln1, pa1, ar1, dq, at1, tx1)) _ := hP
                  have hD9 : va_D A (vX4_parse cA m0 m1 m2 m3 m4 m5 m6 m7 m8 m9 cd row sz1 nd tg st ln pa rd of ar dp at_ rs fd pl tx ou wr op on dn (nI 0, fd1, 0, (nI at1), (-6), (nI at1), fd1, tg1, st1, ln1, pa1, ar1, dq, at1, tx1)) := hD
                  have hq9 : pX4_parse m0 m1 m2 m3 m4 m5 m6 m7 m8 m9 cd row sz1 nd tg st ln pa rd of ar dp at_ rs fd pl tx ou wr op on dn ((-6)) (nI 0, fd1, 0, (nI at1), (-6), (nI at1), fd1, tg1, st1, ln1, pa1, ar1, dq, at1, tx1) := ⟨Or.inr ⟨by rw [hRq, if_pos (by omega)], by decide, rfl⟩, i4, i5, i6, i7, htx1, i1, hdq, by omega, i1, rfl⟩
                  exact W.iret (v := (-6)) hx hb hr (fun t ht hW => ⟨⟨(-6), (nI 0, fd1, 0, (nI at1), (-6), (nI at1), fd1, tg1, st1, ln1, pa1, ar1, dq, at1, tx1), rfl, hq9, by rw [ht]; exact hP9, va_K.moved hW.alike hK, hD9⟩, hS.F ht⟩) hS.2.2 dX4_parse_200
              · rw [if_neg (by omega)] at hRq
                refine lv_iconst (v := nI 1) hx hb dX4_parse_119 (by decide) ?_
                refine lv_goto (tgt := 124) hx hb dX4_parse_120 (by decide) ?_
                refine lv_istore_n (lv' := [(1, .int (nI 1)), (0, .ref m0)]) hx hb dX4_parse_124 rfl hl (by decide) rfl (fun ls hl => ?_)
                refine lv_iload_n hx hb dX4_parse_125 rfl (lv_at hl 0 rfl) ?_
                refine hl_if_eq (tgt := 41) hx hb dX4_parse_126 (by decide) (by omega) (fun c_15 => absurd c_15 (by decide)) (fun c_15 => ?_)
                refine lv_aload_n hx hb dX4_parse_129 rfl (lv_at hl 1 rfl) ?_
                refine cl_Vv (As := []) (rest := []) (wr := []) ⟨hx, hb, hml, hown, hts⟩ (k_X4_value l dC dI cA m0 m1 m2 m3 m4 m5 m6 m7 m8 m9 (nI 0) row sz1 nd tg1 st1 ln1 pa1 0 of ar1 dq at1 fd1 (-1) tx1 ou wr op on dn _ hrow (by omega) htx1 hIq) (cwV 0 hts gX4_parse_X4_value rfl rfl rfl (by decide +kernel) ⟨Nat.le_of_ble_eq_true rfl, Nat.le_of_ble_eq_true rfl⟩) hK hP hD hS hA [0, 1, 2, 3, 4, 5, 6, 7, 8, 9] [] rfl rfl (by decide) (by decide) (by decide) (ci := 3) (q0 := 0) rfl rfl rfl rfl hl.1 rfl (Nat.le_of_ble_eq_true rfl) dX4_parse_130 ⟨Nat.le_of_ble_eq_true rfl, Nat.le_of_ble_eq_true rfl⟩ (fun u_16 H locs hw_16 hP hD hS => ?_)
                obtain ⟨rs2_16, pl2_16, fd2_16, tg2_16, st2_16, ln2_16, pa2_16, ar2_16, dp2_16, at2_16, tx2_16, xn_16, xa_16⟩ := u_16
                have hP : va_P (dC, dI) vwCl (wM cA m0 m1 m2 m3 m4 m5 m6 m7 m8 m9 (nI 0) row sz1 nd tg2_16 st2_16 ln2_16 pa2_16 0 of ar2_16 dp2_16 at2_16 rs2_16 fd2_16 pl2_16 tx2_16 ou wr op on dn) H := hP
                have hD : va_D A (wM cA m0 m1 m2 m3 m4 m5 m6 m7 m8 m9 (nI 0) row sz1 nd tg2_16 st2_16 ln2_16 pa2_16 0 of ar2_16 dp2_16 at2_16 rs2_16 fd2_16 pl2_16 tx2_16 ou wr op on dn) := hD
                have hw_16 : ((valS row sz1 fd1 dq ar1 st1 ln1 at1 = .inr (xn_16, xa_16) ∧ rs2_16 = nI 0 ∧ pl2_16 = (-1) ∧ fd2_16 = fd1 + 1 ∧ tg2_16 = va_up tg1 fd1 (row at1) ∧ st2_16 = va_up st1 fd1 xa_16 ∧ ln2_16 = va_up ln1 fd1 xn_16 ∧ pa2_16 = upd pa1 fd1 (parI dq ar1) ∧ ar2_16 = nxA row at1 fd1 dq ar1 ∧ dp2_16 = nxL row at1 dq ∧ at2_16 = nxP row at1 (xn_16, xa_16)) ∨ (valS row sz1 fd1 dq ar1 st1 ln1 at1 = .inl (rs2_16, pl2_16) ∧ rs2_16 ≠ 0)) ∧ (∀ j, tg2_16 j < 256) ∧ (∀ j, st2_16 j < 1000) ∧ (∀ j, ln2_16 j < 65536) ∧ (∀ j, ar2_16 j < 64) ∧ (∀ j, tx2_16 j < 256) ∧ fd2_16 ≤ 64 ∧ dp2_16 ≤ 16 ∧ at2_16 < 70000 := hw_16
                obtain ⟨hw_16, hb1, hb2, hb3, hb4, hb5, hb6, hb7, hb8⟩ := hw_16
                rcases hw_16 with ⟨hval_16, e1_16, e2_16, e3_16, e4_16, e5_16, e6_16, e7_16, e8_16, e9_16, e10_16⟩ | ⟨hval_16, hne_16⟩
                · have e1_16 := e1_16.symm
                  subst e1_16
                  have e2_16 := e2_16.symm
                  subst e2_16
                  have e3_16 := e3_16.symm
                  subst e3_16
                  have e4_16 := e4_16.symm
                  subst e4_16
                  have e5_16 := e5_16.symm
                  subst e5_16
                  have e6_16 := e6_16.symm
                  subst e6_16
                  have e7_16 := e7_16.symm
                  subst e7_16
                  have e8_16 := e8_16.symm
                  subst e8_16
                  have e9_16 := e9_16.symm
                  subst e9_16
                  have e10_16 := e10_16.symm
                  subst e10_16
                  have hval := hval_16
                  refine lv_goto (tgt := 41) hx hb dX4_parse_133 (by decide) ?_
                  exact ih_41 (nxP row at1 (xn_16, xa_16)) (fd1 + 1) (nxL row at1 dq) (va_up tg1 fd1 (row at1)) (va_up st1 fd1 xa_16) (va_up ln1 fd1 xn_16) (nxA row at1 fd1 dq ar1) (upd pa1 fd1 (parI dq ar1)) tx2_16 (by omega) (aft_of hrow hsz hIq hval hRq) hb5 _ _ _ hP hD hS (lv_sub hl [0, 1] rfl)
                · have hRe : runS row sz1 65 (0, 0, 0, tg, st, ln, ar, pa) = .inl (rs2_16, pl2_16) := by rw [hRq, show 65 - fd1 = (64 - fd1) + 1 by omega]; exact run_err hval_16
                  have hne := hne_16
                  refine lv_goto (tgt := 41) hx hb dX4_parse_133 (by decide) ?_
                  refine lv_iload_n hx hb dX4_parse_41 rfl (lv_at hl 0 rfl) ?_
                  refine hl_if_eq (tgt := 136) hx hb dX4_parse_42 (by decide) (by omega) (fun c_17 => absurd c_17 (by decide)) (fun c_17 => ?_)
                  refine lv_aload_n hx hb dX4_parse_45 rfl (lv_at hl 1 rfl) ?_
                  refine va_get (D := (dC, dI)) (ci := 3) (v := .int rs2_16) (C := RX4) (T := TX4) (N := 22) hx hb hts hinX4 hown hK hP 0 rfl rfl 13 (by decide) hf_55 (fun _ h9 => h9) rfl dX4_parse_46 ?_
                  refine lv_if_ne (tgt := 136) hx hb dX4_parse_49 (by decide) (fun c_18 => ?_) (fun c_18 => absurd c_18 hne)
                  refine lv_aload_n hx hb dX4_parse_136 rfl (lv_at hl 1 rfl) ?_
                  refine va_get (D := (dC, dI)) (ci := 3) (v := .int rs2_16) (C := RX4) (T := TX4) (N := 22) hx hb hts hinX4 hown hK hP 0 rfl rfl 13 (by decide) hf_55 (fun _ h9 => h9) rfl dX4_parse_137 ?_
                  refine lv_if_ne (tgt := 164) hx hb dX4_parse_140 (by decide) (fun c_19 => ?_) (fun c_19 => absurd c_19 hne)
                  refine lv_aload_n hx hb dX4_parse_164 rfl (lv_at hl 1 rfl) ?_
                  refine lv_aload_n hx hb dX4_parse_165 rfl (lv_at hl 1 rfl) ?_
                  refine va_get (D := (dC, dI)) (ci := 3) (v := .int pl2_16) (C := RX4) (T := TX4) (N := 22) hx hb hts hinX4 hown hK hP 0 rfl rfl 15 (by decide) hf_58 (fun _ h9 => h9) rfl dX4_parse_166 ?_
                  refine va_put (D := (dC, dI)) (ci := 3) (v := .int pl2_16) (ty := .int) (C := RX4) (T := TX4) (N := 22) hx hb hts hinX4 tyX4 tyX4_ok nmX4 hown hK hP hD hS 0 rfl rfl 9 (by decide) hf_25 (fun _ h9 => h9) rfl (by decide +kernel) rfl rfl (Nat.le_of_ble_eq_true rfl) dX4_parse_169 (fun H locs hP hD hS => ?_)
                  have hP : va_P (dC, dI) vwCl (wM cA m0 m1 m2 m3 m4 m5 m6 m7 m8 m9 (nI 0) row sz1 nd tg2_16 st2_16 ln2_16 pa2_16 0 pl2_16 ar2_16 dp2_16 at2_16 rs2_16 fd2_16 pl2_16 tx2_16 ou wr op on dn) H := hP
                  have hD : va_D A (wM cA m0 m1 m2 m3 m4 m5 m6 m7 m8 m9 (nI 0) row sz1 nd tg2_16 st2_16 ln2_16 pa2_16 0 pl2_16 ar2_16 dp2_16 at2_16 rs2_16 fd2_16 pl2_16 tx2_16 ou wr op on dn) := hD
                  refine lv_aload_n hx hb dX4_parse_172 rfl (lv_at hl 1 rfl) ?_
                  refine lv_aload_n hx hb dX4_parse_173 rfl (lv_at hl 1 rfl) ?_
                  refine va_get (D := (dC, dI)) (ci := 3) (v := .int rs2_16) (C := RX4) (T := TX4) (N := 22) hx hb hts hinX4 hown hK hP 0 rfl rfl 13 (by decide) hf_55 (fun _ h9 => h9) rfl dX4_parse_174 ?_
                  refine lv_if_ne (tgt := 184) hx hb dX4_parse_177 (by decide) (fun c_20 => ?_) (fun c_20 => absurd c_20 hne)
                  refine lv_iconst (v := nI 0) hx hb dX4_parse_184 (by decide) ?_
                  refine va_put (D := (dC, dI)) (ci := 3) (v := .int (nI 0)) (ty := .boolean) (C := RX4) (T := TX4) (N := 22) hx hb hts hinX4 tyX4 tyX4_ok nmX4 hown hK hP hD hS 0 rfl rfl 8 (by decide) hf_51 (fun _ h9 => h9) rfl (by decide +kernel) rfl rfl (Nat.le_of_ble_eq_true rfl) dX4_parse_185 (fun H locs hP hD hS => ?_)
                  have hP : va_P (dC, dI) vwCl (wM cA m0 m1 m2 m3 m4 m5 m6 m7 m8 m9 (nI 0) row sz1 nd tg2_16 st2_16 ln2_16 pa2_16 0 pl2_16 ar2_16 dp2_16 at2_16 rs2_16 fd2_16 pl2_16 tx2_16 ou wr op on dn) H := hP
                  have hD : va_D A (wM cA m0 m1 m2 m3 m4 m5 m6 m7 m8 m9 (nI 0) row sz1 nd tg2_16 st2_16 ln2_16 pa2_16 0 pl2_16 ar2_16 dp2_16 at2_16 rs2_16 fd2_16 pl2_16 tx2_16 ou wr op on dn) := hD
                  refine lv_aload_n hx hb dX4_parse_188 rfl (lv_at hl 1 rfl) ?_
                  refine lv_aload_n hx hb dX4_parse_189 rfl (lv_at hl 1 rfl) ?_
                  refine va_get (D := (dC, dI)) (ci := 3) (v := .int (nI fd2_16)) (C := RX4) (T := TX4) (N := 22) hx hb hts hinX4 hown hK hP 0 rfl rfl 14 (by decide) hf_78 (fun _ h9 => h9) rfl dX4_parse_190 ?_
                  refine va_put (D := (dC, dI)) (ci := 3) (v := .int (nI fd2_16)) (ty := .int) (C := RX4) (T := TX4) (N := 22) hx hb hts hinX4 tyX4 tyX4_ok nmX4 hown hK hP hD hS 0 rfl rfl 3 (by decide) hf_91 (fun _ h9 => h9) rfl (by decide +kernel) rfl rfl (Nat.le_of_ble_eq_true rfl) dX4_parse_193 (fun H locs hP hD hS => ?_)
                  have hP : va_P (dC, dI) vwCl (wM cA m0 m1 m2 m3 m4 m5 m6 m7 m8 m9 (nI 0) row sz1 fd2_16 tg2_16 st2_16 ln2_16 pa2_16 0 pl2_16 ar2_16 dp2_16 at2_16 rs2_16 fd2_16 pl2_16 tx2_16 ou wr op on dn) H := hP
                  have hD : va_D A (wM cA m0 m1 m2 m3 m4 m5 m6 m7 m8 m9 (nI 0) row sz1 fd2_16 tg2_16 st2_16 ln2_16 pa2_16 0 pl2_16 ar2_16 dp2_16 at2_16 rs2_16 fd2_16 pl2_16 tx2_16 ou wr op on dn) := hD
                  refine lv_aload_n hx hb dX4_parse_196 rfl (lv_at hl 1 rfl) ?_
                  refine va_get (D := (dC, dI)) (ci := 3) (v := .int rs2_16) (C := RX4) (T := TX4) (N := 22) hx hb hts hinX4 hown hK hP 0 rfl rfl 13 (by decide) hf_55 (fun _ h9 => h9) rfl dX4_parse_197 ?_
                  have hP9 : va_P (dC, dI) vwCl (vX4_parse cA m0 m1 m2 m3 m4 m5 m6 m7 m8 m9 cd row sz1 nd tg st ln pa rd of ar dp at_ rs fd pl tx ou wr op on dn (nI 0, fd2_16, 0, pl2_16, rs2_16, pl2_16, fd2_16, tg2_16, st2_16, ln2_16, pa2_16, ar2_16, dp2_16, at2_16, tx2_16)) _ := hP
                  have hD9 : va_D A (vX4_parse cA m0 m1 m2 m3 m4 m5 m6 m7 m8 m9 cd row sz1 nd tg st ln pa rd of ar dp at_ rs fd pl tx ou wr op on dn (nI 0, fd2_16, 0, pl2_16, rs2_16, pl2_16, fd2_16, tg2_16, st2_16, ln2_16, pa2_16, ar2_16, dp2_16, at2_16, tx2_16)) := hD
                  have hq9 : pX4_parse m0 m1 m2 m3 m4 m5 m6 m7 m8 m9 cd row sz1 nd tg st ln pa rd of ar dp at_ rs fd pl tx ou wr op on dn (rs2_16) (nI 0, fd2_16, 0, pl2_16, rs2_16, pl2_16, fd2_16, tg2_16, st2_16, ln2_16, pa2_16, ar2_16, dp2_16, at2_16, tx2_16) := ⟨Or.inr ⟨hRe, hne, rfl⟩, hb1, hb2, hb3, hb4, hb5, hb6, hb7, hb8, hb6, rfl⟩
                  exact W.iret (v := rs2_16) hx hb hr (fun t ht hW => ⟨⟨rs2_16, (nI 0, fd2_16, 0, pl2_16, rs2_16, pl2_16, fd2_16, tg2_16, st2_16, ln2_16, pa2_16, ar2_16, dp2_16, at2_16, tx2_16), rfl, hq9, by rw [ht]; exact hP9, va_K.moved hW.alike hK, hD9⟩, hS.F ht⟩) hS.2.2 dX4_parse_200
            · refine lv_aload_n hx hb dX4_parse_59 rfl (lv_at hl 1 rfl) ?_
              refine va_get (D := (dC, dI)) (ci := 3) (v := .int (nI at1)) (C := RX4) (T := TX4) (N := 22) hx hb hts hinX4 hown hK hP 0 rfl rfl 12 (by decide) hf_72 (fun _ h9 => h9) rfl dX4_parse_60 ?_
              refine lv_aload_n hx hb dX4_parse_63 rfl (lv_at hl 1 rfl) ?_
              refine va_get (D := (dC, dI)) (ci := 3) (v := .ref m3) (C := RX4) (T := TX4) (N := 22) hx hb hts hinX4 hown hK hP 0 rfl rfl 5 (by decide) hf_16 (fun _ h9 => h9) rfl dX4_parse_64 ?_
              refine lv_aload_n hx hb dX4_parse_67 rfl (lv_at hl 1 rfl) ?_
              refine va_get (D := (dC, dI)) (ci := 3) (v := .ref m6) (C := RX4) (T := TX4) (N := 22) hx hb hts hinX4 hown hK hP 0 rfl rfl 10 (by decide) hf_29 (fun _ h9 => h9) rfl dX4_parse_68 ?_
              refine lv_aload_n hx hb dX4_parse_71 rfl (lv_at hl 1 rfl) ?_
              refine va_get (D := (dC, dI)) (ci := 3) (v := .int (nI dq)) (C := RX4) (T := TX4) (N := 22) hx hb hts hinX4 hown hK hP 0 rfl rfl 11 (by decide) hf_61 (fun _ h9 => h9) rfl dX4_parse_72 ?_
              refine lv_iconst (v := nI 1) hx hb dX4_parse_75 (by decide) ?_
              refine hl_isub hx hb (by omega) dX4_parse_76 ?_
              refine hl_iald hx hb hK hP 6 0 rfl rfl (by omega) (by decide) dX4_parse_77 ?_
              have hv_21 := i7 (dq - 1)
              refine hl_iald hx hb hK hP 3 0 rfl rfl (by omega) (by decide) dX4_parse_78 ?_
              have hv_22 := i5 (ar1 (dq - 1))
              refine lv_aload_n hx hb dX4_parse_79 rfl (lv_at hl 1 rfl) ?_
              refine va_get (D := (dC, dI)) (ci := 3) (v := .ref m4) (C := RX4) (T := TX4) (N := 22) hx hb hts hinX4 hown hK hP 0 rfl rfl 6 (by decide) hf_19 (fun _ h9 => h9) rfl dX4_parse_80 ?_
              refine lv_aload_n hx hb dX4_parse_83 rfl (lv_at hl 1 rfl) ?_
              refine va_get (D := (dC, dI)) (ci := 3) (v := .ref m6) (C := RX4) (T := TX4) (N := 22) hx hb hts hinX4 hown hK hP 0 rfl rfl 10 (by decide) hf_29 (fun _ h9 => h9) rfl dX4_parse_84 ?_
              refine lv_aload_n hx hb dX4_parse_87 rfl (lv_at hl 1 rfl) ?_
              refine va_get (D := (dC, dI)) (ci := 3) (v := .int (nI dq)) (C := RX4) (T := TX4) (N := 22) hx hb hts hinX4 hown hK hP 0 rfl rfl 11 (by decide) hf_61 (fun _ h9 => h9) rfl dX4_parse_88 ?_
              refine lv_iconst (v := nI 1) hx hb dX4_parse_91 (by decide) ?_
              refine hl_isub hx hb (by omega) dX4_parse_92 ?_
              refine hl_iald hx hb hK hP 6 0 rfl rfl (by omega) (by decide) dX4_parse_93 ?_
              have hv_23 := i7 (dq - 1)
              refine hl_iald hx hb hK hP 4 0 rfl rfl (by omega) (by decide) dX4_parse_94 ?_
              have hv_24 := i6 (ar1 (dq - 1))
              refine hl_iadd hx hb dX4_parse_95 ?_
              refine hl_icmp_ne (tgt := 112) hx hb dX4_parse_96 (by decide) (by omega) (by omega) (fun c_25 => ?_) (fun c_25 => ?_)
              · have hq : popN st1 ln1 ar1 at1 dp1 = dq := by rw [← hpop]; exact popN_stop (by first | (left; omega) | (right; omega))
                have hIq := hIp
                rw [hq] at hIq
                have hRq := hR
                rw [hq] at hRq
                refine lv_aload_n hx hb dX4_parse_112 rfl (lv_at hl 1 rfl) ?_
                refine va_get (D := (dC, dI)) (ci := 3) (v := .int (nI dq)) (C := RX4) (T := TX4) (N := 22) hx hb hts hinX4 hown hK hP 0 rfl rfl 11 (by decide) hf_61 (fun _ h9 => h9) rfl dX4_parse_113 ?_
                refine hl_if_le (tgt := 123) hx hb dX4_parse_116 (by decide) (by omega) (fun c_26 => ?_) (fun c_26 => ?_)
                · have hq0 : dq = 0 := by omega
                  rw [if_pos hq0] at hRq
                  refine lv_iconst (v := nI 0) hx hb dX4_parse_123 (by decide) ?_
                  refine lv_istore_n (lv' := [(1, .int (nI 0)), (0, .ref m0)]) hx hb dX4_parse_124 rfl hl (by decide) rfl (fun ls hl => ?_)
                  refine lv_iload_n hx hb dX4_parse_125 rfl (lv_at hl 0 rfl) ?_
                  refine hl_if_eq (tgt := 41) hx hb dX4_parse_126 (by decide) (by omega) (fun c_27 => ?_) (fun c_27 => absurd c_27 (by decide))
                  refine lv_iload_n hx hb dX4_parse_41 rfl (lv_at hl 0 rfl) ?_
                  refine hl_if_eq (tgt := 136) hx hb dX4_parse_42 (by decide) (by omega) (fun c_28 => ?_) (fun c_28 => absurd c_28 (by decide))
                  refine lv_aload_n hx hb dX4_parse_136 rfl (lv_at hl 1 rfl) ?_
                  refine va_get (D := (dC, dI)) (ci := 3) (v := .int (nI 0)) (C := RX4) (T := TX4) (N := 22) hx hb hts hinX4 hown hK hP 0 rfl rfl 13 (by decide) hf_55 (fun _ h9 => h9) rfl dX4_parse_137 ?_
                  refine hl_if_ne (tgt := 164) hx hb dX4_parse_140 (by decide) (by omega) (fun c_29 => absurd c_29 (by decide)) (fun c_29 => ?_)
                  refine lv_aload_n hx hb dX4_parse_143 rfl (lv_at hl 1 rfl) ?_
                  refine va_get (D := (dC, dI)) (ci := 3) (v := .int (nI at1)) (C := RX4) (T := TX4) (N := 22) hx hb hts hinX4 hown hK hP 0 rfl rfl 12 (by decide) hf_72 (fun _ h9 => h9) rfl dX4_parse_144 ?_
                  refine lv_aload_n hx hb dX4_parse_147 rfl (lv_at hl 1 rfl) ?_
                  refine va_get (D := (dC, dI)) (ci := 3) (v := .int (nI sz1)) (C := RX4) (T := TX4) (N := 22) hx hb hts hinX4 hown hK hP 0 rfl rfl 2 (by decide) hf_48 (fun _ h9 => h9) rfl dX4_parse_148 ?_
                  refine hl_icmp_ge (tgt := 164) hx hb dX4_parse_151 (by decide) (by omega) (by omega) (fun c_30 => ?_) (fun c_30 => ?_)
                  · refine lv_aload_n hx hb dX4_parse_164 rfl (lv_at hl 1 rfl) ?_
                    refine lv_aload_n hx hb dX4_parse_165 rfl (lv_at hl 1 rfl) ?_
                    refine va_get (D := (dC, dI)) (ci := 3) (v := .int (-1)) (C := RX4) (T := TX4) (N := 22) hx hb hts hinX4 hown hK hP 0 rfl rfl 15 (by decide) hf_58 (fun _ h9 => h9) rfl dX4_parse_166 ?_
                    refine va_put (D := (dC, dI)) (ci := 3) (v := .int (-1)) (ty := .int) (C := RX4) (T := TX4) (N := 22) hx hb hts hinX4 tyX4 tyX4_ok nmX4 hown hK hP hD hS 0 rfl rfl 9 (by decide) hf_25 (fun _ h9 => h9) rfl (by decide +kernel) rfl rfl (Nat.le_of_ble_eq_true rfl) dX4_parse_169 (fun H locs hP hD hS => ?_)
                    have hP : va_P (dC, dI) vwCl (wM cA m0 m1 m2 m3 m4 m5 m6 m7 m8 m9 (nI 0) row sz1 nd tg1 st1 ln1 pa1 0 (-1) ar1 dq at1 (nI 0) fd1 (-1) tx1 ou wr op on dn) H := hP
                    have hD : va_D A (wM cA m0 m1 m2 m3 m4 m5 m6 m7 m8 m9 (nI 0) row sz1 nd tg1 st1 ln1 pa1 0 (-1) ar1 dq at1 (nI 0) fd1 (-1) tx1 ou wr op on dn) := hD
                    refine lv_aload_n hx hb dX4_parse_172 rfl (lv_at hl 1 rfl) ?_
                    refine lv_aload_n hx hb dX4_parse_173 rfl (lv_at hl 1 rfl) ?_
                    refine va_get (D := (dC, dI)) (ci := 3) (v := .int (nI 0)) (C := RX4) (T := TX4) (N := 22) hx hb hts hinX4 hown hK hP 0 rfl rfl 13 (by decide) hf_55 (fun _ h9 => h9) rfl dX4_parse_174 ?_
                    refine hl_if_ne (tgt := 184) hx hb dX4_parse_177 (by decide) (by omega) (fun c_31 => absurd c_31 (by decide)) (fun c_31 => ?_)
                    refine lv_iconst (v := nI 1) hx hb dX4_parse_180 (by decide) ?_
                    refine lv_goto (tgt := 185) hx hb dX4_parse_181 (by decide) ?_
                    refine va_put (D := (dC, dI)) (ci := 3) (v := .int (nI 1)) (ty := .boolean) (C := RX4) (T := TX4) (N := 22) hx hb hts hinX4 tyX4 tyX4_ok nmX4 hown hK hP hD hS 0 rfl rfl 8 (by decide) hf_51 (fun _ h9 => h9) rfl (by decide +kernel) rfl rfl (Nat.le_of_ble_eq_true rfl) dX4_parse_185 (fun H locs hP hD hS => ?_)
                    have hP : va_P (dC, dI) vwCl (wM cA m0 m1 m2 m3 m4 m5 m6 m7 m8 m9 (nI 0) row sz1 nd tg1 st1 ln1 pa1 1 (-1) ar1 dq at1 (nI 0) fd1 (-1) tx1 ou wr op on dn) H := hP
                    have hD : va_D A (wM cA m0 m1 m2 m3 m4 m5 m6 m7 m8 m9 (nI 0) row sz1 nd tg1 st1 ln1 pa1 1 (-1) ar1 dq at1 (nI 0) fd1 (-1) tx1 ou wr op on dn) := hD
                    refine lv_aload_n hx hb dX4_parse_188 rfl (lv_at hl 1 rfl) ?_
                    refine lv_aload_n hx hb dX4_parse_189 rfl (lv_at hl 1 rfl) ?_
                    refine va_get (D := (dC, dI)) (ci := 3) (v := .int (nI fd1)) (C := RX4) (T := TX4) (N := 22) hx hb hts hinX4 hown hK hP 0 rfl rfl 14 (by decide) hf_78 (fun _ h9 => h9) rfl dX4_parse_190 ?_
                    refine va_put (D := (dC, dI)) (ci := 3) (v := .int (nI fd1)) (ty := .int) (C := RX4) (T := TX4) (N := 22) hx hb hts hinX4 tyX4 tyX4_ok nmX4 hown hK hP hD hS 0 rfl rfl 3 (by decide) hf_91 (fun _ h9 => h9) rfl (by decide +kernel) rfl rfl (Nat.le_of_ble_eq_true rfl) dX4_parse_193 (fun H locs hP hD hS => ?_)
                    have hP : va_P (dC, dI) vwCl (wM cA m0 m1 m2 m3 m4 m5 m6 m7 m8 m9 (nI 0) row sz1 fd1 tg1 st1 ln1 pa1 1 (-1) ar1 dq at1 (nI 0) fd1 (-1) tx1 ou wr op on dn) H := hP
                    have hD : va_D A (wM cA m0 m1 m2 m3 m4 m5 m6 m7 m8 m9 (nI 0) row sz1 fd1 tg1 st1 ln1 pa1 1 (-1) ar1 dq at1 (nI 0) fd1 (-1) tx1 ou wr op on dn) := hD
                    refine lv_aload_n hx hb dX4_parse_196 rfl (lv_at hl 1 rfl) ?_
                    refine va_get (D := (dC, dI)) (ci := 3) (v := .int (nI 0)) (C := RX4) (T := TX4) (N := 22) hx hb hts hinX4 hown hK hP 0 rfl rfl 13 (by decide) hf_55 (fun _ h9 => h9) rfl dX4_parse_197 ?_
                    have hP9 : va_P (dC, dI) vwCl (vX4_parse cA m0 m1 m2 m3 m4 m5 m6 m7 m8 m9 cd row sz1 nd tg st ln pa rd of ar dp at_ rs fd pl tx ou wr op on dn (nI 0, fd1, 1, (-1), nI 0, (-1), fd1, tg1, st1, ln1, pa1, ar1, dq, at1, tx1)) _ := hP
                    have hD9 : va_D A (vX4_parse cA m0 m1 m2 m3 m4 m5 m6 m7 m8 m9 cd row sz1 nd tg st ln pa rd of ar dp at_ rs fd pl tx ou wr op on dn (nI 0, fd1, 1, (-1), nI 0, (-1), fd1, tg1, st1, ln1, pa1, ar1, dq, at1, tx1)) := hD
                    have hq9 : pX4_parse m0 m1 m2 m3 m4 m5 m6 m7 m8 m9 cd row sz1 nd tg st ln pa rd of ar dp at_ rs fd pl tx ou wr op on dn (nI 0) (nI 0, fd1, 1, (-1), nI 0, (-1), fd1, tg1, st1, ln1, pa1, ar1, dq, at1, tx1) := ⟨Or.inl ⟨by rw [hRq, if_neg (by omega)], rfl, rfl, rfl, hIq, hf0⟩, i4, i5, i6, i7, htx1, i1, hdq, by omega, i1, rfl⟩
                    exact W.iret (v := nI 0) hx hb hr (fun t ht hW => ⟨⟨nI 0, (nI 0, fd1, 1, (-1), nI 0, (-1), fd1, tg1, st1, ln1, pa1, ar1, dq, at1, tx1), rfl, hq9, by rw [ht]; exact hP9, va_K.moved hW.alike hK, hD9⟩, hS.F ht⟩) hS.2.2 dX4_parse_200
                  · refine lv_aload_n hx hb dX4_parse_154 rfl (lv_at hl 1 rfl) ?_
                    refine lv_bipush (v := (-6)) hx hb dX4_parse_155 (by decide) ?_
                    refine lv_aload_n hx hb dX4_parse_157 rfl (lv_at hl 1 rfl) ?_
                    refine va_get (D := (dC, dI)) (ci := 3) (v := .int (nI at1)) (C := RX4) (T := TX4) (N := 22) hx hb hts hinX4 hown hK hP 0 rfl rfl 12 (by decide) hf_72 (fun _ h9 => h9) rfl dX4_parse_158 ?_
                    refine cl_Vv (As := [.int (-6), .int (nI at1)]) (rest := []) (wr := []) ⟨hx, hb, hml, hown, hts⟩ (k_X4_fail l dC dI cA m0 m1 m2 m3 m4 m5 m6 m7 m8 m9 (nI 0) row sz1 nd tg1 st1 ln1 pa1 0 of ar1 dq at1 (nI 0) fd1 (-1) tx1 ou wr op on dn (-6) (nI at1) _ ) (cwV 2 hts gX4_parse_X4_fail rfl rfl rfl (by decide +kernel) ⟨Nat.le_of_ble_eq_true rfl, Nat.le_of_ble_eq_true rfl⟩) hK hP hD hS hA [0, 1, 2, 3, 4, 5, 6, 7, 8, 9] [] rfl rfl (by decide) (by decide) (by decide) (ci := 3) (q0 := 0) rfl rfl rfl rfl hl.1 rfl (Nat.le_of_ble_eq_true rfl) dX4_parse_161 ⟨Nat.le_of_ble_eq_true rfl, Nat.le_of_ble_eq_true rfl⟩ (fun u_32 H locs hw_32 hP hD hS => ?_)
                    obtain ⟨rs2_32, pl2_32⟩ := u_32
                    have hP : va_P (dC, dI) vwCl (wM cA m0 m1 m2 m3 m4 m5 m6 m7 m8 m9 (nI 0) row sz1 nd tg1 st1 ln1 pa1 0 of ar1 dq at1 rs2_32 fd1 pl2_32 tx1 ou wr op on dn) H := hP
                    have hD : va_D A (wM cA m0 m1 m2 m3 m4 m5 m6 m7 m8 m9 (nI 0) row sz1 nd tg1 st1 ln1 pa1 0 of ar1 dq at1 rs2_32 fd1 pl2_32 tx1 ou wr op on dn) := hD
                    have hw_32 : rs2_32 = (-6) ∧ pl2_32 = (nI at1) := hw_32
                    obtain ⟨e0_32, e1_32⟩ := hw_32
                    have e0_32 := e0_32.symm
                    subst e0_32
                    have e1_32 := e1_32.symm
                    subst e1_32
                    refine lv_aload_n hx hb dX4_parse_164 rfl (lv_at hl 1 rfl) ?_
                    refine lv_aload_n hx hb dX4_parse_165 rfl (lv_at hl 1 rfl) ?_
                    refine va_get (D := (dC, dI)) (ci := 3) (v := .int (nI at1)) (C := RX4) (T := TX4) (N := 22) hx hb hts hinX4 hown hK hP 0 rfl rfl 15 (by decide) hf_58 (fun _ h9 => h9) rfl dX4_parse_166 ?_
                    refine va_put (D := (dC, dI)) (ci := 3) (v := .int (nI at1)) (ty := .int) (C := RX4) (T := TX4) (N := 22) hx hb hts hinX4 tyX4 tyX4_ok nmX4 hown hK hP hD hS 0 rfl rfl 9 (by decide) hf_25 (fun _ h9 => h9) rfl (by decide +kernel) rfl rfl (Nat.le_of_ble_eq_true rfl) dX4_parse_169 (fun H locs hP hD hS => ?_)
                    have hP : va_P (dC, dI) vwCl (wM cA m0 m1 m2 m3 m4 m5 m6 m7 m8 m9 (nI 0) row sz1 nd tg1 st1 ln1 pa1 0 (nI at1) ar1 dq at1 (-6) fd1 (nI at1) tx1 ou wr op on dn) H := hP
                    have hD : va_D A (wM cA m0 m1 m2 m3 m4 m5 m6 m7 m8 m9 (nI 0) row sz1 nd tg1 st1 ln1 pa1 0 (nI at1) ar1 dq at1 (-6) fd1 (nI at1) tx1 ou wr op on dn) := hD
                    refine lv_aload_n hx hb dX4_parse_172 rfl (lv_at hl 1 rfl) ?_
                    refine lv_aload_n hx hb dX4_parse_173 rfl (lv_at hl 1 rfl) ?_
                    refine va_get (D := (dC, dI)) (ci := 3) (v := .int (-6)) (C := RX4) (T := TX4) (N := 22) hx hb hts hinX4 hown hK hP 0 rfl rfl 13 (by decide) hf_55 (fun _ h9 => h9) rfl dX4_parse_174 ?_
                    refine lv_if_ne (tgt := 184) hx hb dX4_parse_177 (by decide) (fun c_33 => ?_) (fun c_33 => absurd c_33 (by decide))
                    refine lv_iconst (v := nI 0) hx hb dX4_parse_184 (by decide) ?_
                    refine va_put (D := (dC, dI)) (ci := 3) (v := .int (nI 0)) (ty := .boolean) (C := RX4) (T := TX4) (N := 22) hx hb hts hinX4 tyX4 tyX4_ok nmX4 hown hK hP hD hS 0 rfl rfl 8 (by decide) hf_51 (fun _ h9 => h9) rfl (by decide +kernel) rfl rfl (Nat.le_of_ble_eq_true rfl) dX4_parse_185 (fun H locs hP hD hS => ?_)
                    have hP : va_P (dC, dI) vwCl (wM cA m0 m1 m2 m3 m4 m5 m6 m7 m8 m9 (nI 0) row sz1 nd tg1 st1 ln1 pa1 0 (nI at1) ar1 dq at1 (-6) fd1 (nI at1) tx1 ou wr op on dn) H := hP
                    have hD : va_D A (wM cA m0 m1 m2 m3 m4 m5 m6 m7 m8 m9 (nI 0) row sz1 nd tg1 st1 ln1 pa1 0 (nI at1) ar1 dq at1 (-6) fd1 (nI at1) tx1 ou wr op on dn) := hD
                    refine lv_aload_n hx hb dX4_parse_188 rfl (lv_at hl 1 rfl) ?_
                    refine lv_aload_n hx hb dX4_parse_189 rfl (lv_at hl 1 rfl) ?_
                    refine va_get (D := (dC, dI)) (ci := 3) (v := .int (nI fd1)) (C := RX4) (T := TX4) (N := 22) hx hb hts hinX4 hown hK hP 0 rfl rfl 14 (by decide) hf_78 (fun _ h9 => h9) rfl dX4_parse_190 ?_
                    refine va_put (D := (dC, dI)) (ci := 3) (v := .int (nI fd1)) (ty := .int) (C := RX4) (T := TX4) (N := 22) hx hb hts hinX4 tyX4 tyX4_ok nmX4 hown hK hP hD hS 0 rfl rfl 3 (by decide) hf_91 (fun _ h9 => h9) rfl (by decide +kernel) rfl rfl (Nat.le_of_ble_eq_true rfl) dX4_parse_193 (fun H locs hP hD hS => ?_)
                    have hP : va_P (dC, dI) vwCl (wM cA m0 m1 m2 m3 m4 m5 m6 m7 m8 m9 (nI 0) row sz1 fd1 tg1 st1 ln1 pa1 0 (nI at1) ar1 dq at1 (-6) fd1 (nI at1) tx1 ou wr op on dn) H := hP
                    have hD : va_D A (wM cA m0 m1 m2 m3 m4 m5 m6 m7 m8 m9 (nI 0) row sz1 fd1 tg1 st1 ln1 pa1 0 (nI at1) ar1 dq at1 (-6) fd1 (nI at1) tx1 ou wr op on dn) := hD
                    refine lv_aload_n hx hb dX4_parse_196 rfl (lv_at hl 1 rfl) ?_
                    refine va_get (D := (dC, dI)) (ci := 3) (v := .int (-6)) (C := RX4) (T := TX4) (N := 22) hx hb hts hinX4 hown hK hP 0 rfl rfl 13 (by decide) hf_55 (fun _ h9 => h9) rfl dX4_parse_197 ?_
                    have hP9 : va_P (dC, dI) vwCl (vX4_parse cA m0 m1 m2 m3 m4 m5 m6 m7 m8 m9 cd row sz1 nd tg st ln pa rd of ar dp at_ rs fd pl tx ou wr op on dn (nI 0, fd1, 0, (nI at1), (-6), (nI at1), fd1, tg1, st1, ln1, pa1, ar1, dq, at1, tx1)) _ := hP
                    have hD9 : va_D A (vX4_parse cA m0 m1 m2 m3 m4 m5 m6 m7 m8 m9 cd row sz1 nd tg st ln pa rd of ar dp at_ rs fd pl tx ou wr op on dn (nI 0, fd1, 0, (nI at1), (-6), (nI at1), fd1, tg1, st1, ln1, pa1, ar1, dq, at1, tx1)) := hD
                    have hq9 : pX4_parse m0 m1 m2 m3 m4 m5 m6 m7 m8 m9 cd row sz1 nd tg st ln pa rd of ar dp at_ rs fd pl tx ou wr op on dn ((-6)) (nI 0, fd1, 0, (nI at1), (-6), (nI at1), fd1, tg1, st1, ln1, pa1, ar1, dq, at1, tx1) := ⟨Or.inr ⟨by rw [hRq, if_pos (by omega)], by decide, rfl⟩, i4, i5, i6, i7, htx1, i1, hdq, by omega, i1, rfl⟩
                    exact W.iret (v := (-6)) hx hb hr (fun t ht hW => ⟨⟨(-6), (nI 0, fd1, 0, (nI at1), (-6), (nI at1), fd1, tg1, st1, ln1, pa1, ar1, dq, at1, tx1), rfl, hq9, by rw [ht]; exact hP9, va_K.moved hW.alike hK, hD9⟩, hS.F ht⟩) hS.2.2 dX4_parse_200
                · rw [if_neg (by omega)] at hRq
                  refine lv_iconst (v := nI 1) hx hb dX4_parse_119 (by decide) ?_
                  refine lv_goto (tgt := 124) hx hb dX4_parse_120 (by decide) ?_
                  refine lv_istore_n (lv' := [(1, .int (nI 1)), (0, .ref m0)]) hx hb dX4_parse_124 rfl hl (by decide) rfl (fun ls hl => ?_)
                  refine lv_iload_n hx hb dX4_parse_125 rfl (lv_at hl 0 rfl) ?_
                  refine hl_if_eq (tgt := 41) hx hb dX4_parse_126 (by decide) (by omega) (fun c_34 => absurd c_34 (by decide)) (fun c_34 => ?_)
                  refine lv_aload_n hx hb dX4_parse_129 rfl (lv_at hl 1 rfl) ?_
                  refine cl_Vv (As := []) (rest := []) (wr := []) ⟨hx, hb, hml, hown, hts⟩ (k_X4_value l dC dI cA m0 m1 m2 m3 m4 m5 m6 m7 m8 m9 (nI 0) row sz1 nd tg1 st1 ln1 pa1 0 of ar1 dq at1 fd1 (-1) tx1 ou wr op on dn _ hrow (by omega) htx1 hIq) (cwV 0 hts gX4_parse_X4_value rfl rfl rfl (by decide +kernel) ⟨Nat.le_of_ble_eq_true rfl, Nat.le_of_ble_eq_true rfl⟩) hK hP hD hS hA [0, 1, 2, 3, 4, 5, 6, 7, 8, 9] [] rfl rfl (by decide) (by decide) (by decide) (ci := 3) (q0 := 0) rfl rfl rfl rfl hl.1 rfl (Nat.le_of_ble_eq_true rfl) dX4_parse_130 ⟨Nat.le_of_ble_eq_true rfl, Nat.le_of_ble_eq_true rfl⟩ (fun u_35 H locs hw_35 hP hD hS => ?_)
                  obtain ⟨rs2_35, pl2_35, fd2_35, tg2_35, st2_35, ln2_35, pa2_35, ar2_35, dp2_35, at2_35, tx2_35, xn_35, xa_35⟩ := u_35
                  have hP : va_P (dC, dI) vwCl (wM cA m0 m1 m2 m3 m4 m5 m6 m7 m8 m9 (nI 0) row sz1 nd tg2_35 st2_35 ln2_35 pa2_35 0 of ar2_35 dp2_35 at2_35 rs2_35 fd2_35 pl2_35 tx2_35 ou wr op on dn) H := hP
                  have hD : va_D A (wM cA m0 m1 m2 m3 m4 m5 m6 m7 m8 m9 (nI 0) row sz1 nd tg2_35 st2_35 ln2_35 pa2_35 0 of ar2_35 dp2_35 at2_35 rs2_35 fd2_35 pl2_35 tx2_35 ou wr op on dn) := hD
                  have hw_35 : ((valS row sz1 fd1 dq ar1 st1 ln1 at1 = .inr (xn_35, xa_35) ∧ rs2_35 = nI 0 ∧ pl2_35 = (-1) ∧ fd2_35 = fd1 + 1 ∧ tg2_35 = va_up tg1 fd1 (row at1) ∧ st2_35 = va_up st1 fd1 xa_35 ∧ ln2_35 = va_up ln1 fd1 xn_35 ∧ pa2_35 = upd pa1 fd1 (parI dq ar1) ∧ ar2_35 = nxA row at1 fd1 dq ar1 ∧ dp2_35 = nxL row at1 dq ∧ at2_35 = nxP row at1 (xn_35, xa_35)) ∨ (valS row sz1 fd1 dq ar1 st1 ln1 at1 = .inl (rs2_35, pl2_35) ∧ rs2_35 ≠ 0)) ∧ (∀ j, tg2_35 j < 256) ∧ (∀ j, st2_35 j < 1000) ∧ (∀ j, ln2_35 j < 65536) ∧ (∀ j, ar2_35 j < 64) ∧ (∀ j, tx2_35 j < 256) ∧ fd2_35 ≤ 64 ∧ dp2_35 ≤ 16 ∧ at2_35 < 70000 := hw_35
                  obtain ⟨hw_35, hb1, hb2, hb3, hb4, hb5, hb6, hb7, hb8⟩ := hw_35
                  rcases hw_35 with ⟨hval_35, e1_35, e2_35, e3_35, e4_35, e5_35, e6_35, e7_35, e8_35, e9_35, e10_35⟩ | ⟨hval_35, hne_35⟩
                  · have e1_35 := e1_35.symm
                    subst e1_35
                    have e2_35 := e2_35.symm
                    subst e2_35
                    have e3_35 := e3_35.symm
                    subst e3_35
                    have e4_35 := e4_35.symm
                    subst e4_35
                    have e5_35 := e5_35.symm
                    subst e5_35
                    have e6_35 := e6_35.symm
                    subst e6_35
                    have e7_35 := e7_35.symm
                    subst e7_35
                    have e8_35 := e8_35.symm
                    subst e8_35
                    have e9_35 := e9_35.symm
                    subst e9_35
                    have e10_35 := e10_35.symm
                    subst e10_35
                    have hval := hval_35
                    refine lv_goto (tgt := 41) hx hb dX4_parse_133 (by decide) ?_
                    exact ih_41 (nxP row at1 (xn_35, xa_35)) (fd1 + 1) (nxL row at1 dq) (va_up tg1 fd1 (row at1)) (va_up st1 fd1 xa_35) (va_up ln1 fd1 xn_35) (nxA row at1 fd1 dq ar1) (upd pa1 fd1 (parI dq ar1)) tx2_35 (by omega) (aft_of hrow hsz hIq hval hRq) hb5 _ _ _ hP hD hS (lv_sub hl [0, 1] rfl)
                  · have hRe : runS row sz1 65 (0, 0, 0, tg, st, ln, ar, pa) = .inl (rs2_35, pl2_35) := by rw [hRq, show 65 - fd1 = (64 - fd1) + 1 by omega]; exact run_err hval_35
                    have hne := hne_35
                    refine lv_goto (tgt := 41) hx hb dX4_parse_133 (by decide) ?_
                    refine lv_iload_n hx hb dX4_parse_41 rfl (lv_at hl 0 rfl) ?_
                    refine hl_if_eq (tgt := 136) hx hb dX4_parse_42 (by decide) (by omega) (fun c_36 => absurd c_36 (by decide)) (fun c_36 => ?_)
                    refine lv_aload_n hx hb dX4_parse_45 rfl (lv_at hl 1 rfl) ?_
                    refine va_get (D := (dC, dI)) (ci := 3) (v := .int rs2_35) (C := RX4) (T := TX4) (N := 22) hx hb hts hinX4 hown hK hP 0 rfl rfl 13 (by decide) hf_55 (fun _ h9 => h9) rfl dX4_parse_46 ?_
                    refine lv_if_ne (tgt := 136) hx hb dX4_parse_49 (by decide) (fun c_37 => ?_) (fun c_37 => absurd c_37 hne)
                    refine lv_aload_n hx hb dX4_parse_136 rfl (lv_at hl 1 rfl) ?_
                    refine va_get (D := (dC, dI)) (ci := 3) (v := .int rs2_35) (C := RX4) (T := TX4) (N := 22) hx hb hts hinX4 hown hK hP 0 rfl rfl 13 (by decide) hf_55 (fun _ h9 => h9) rfl dX4_parse_137 ?_
                    refine lv_if_ne (tgt := 164) hx hb dX4_parse_140 (by decide) (fun c_38 => ?_) (fun c_38 => absurd c_38 hne)
                    refine lv_aload_n hx hb dX4_parse_164 rfl (lv_at hl 1 rfl) ?_
                    refine lv_aload_n hx hb dX4_parse_165 rfl (lv_at hl 1 rfl) ?_
                    refine va_get (D := (dC, dI)) (ci := 3) (v := .int pl2_35) (C := RX4) (T := TX4) (N := 22) hx hb hts hinX4 hown hK hP 0 rfl rfl 15 (by decide) hf_58 (fun _ h9 => h9) rfl dX4_parse_166 ?_
                    refine va_put (D := (dC, dI)) (ci := 3) (v := .int pl2_35) (ty := .int) (C := RX4) (T := TX4) (N := 22) hx hb hts hinX4 tyX4 tyX4_ok nmX4 hown hK hP hD hS 0 rfl rfl 9 (by decide) hf_25 (fun _ h9 => h9) rfl (by decide +kernel) rfl rfl (Nat.le_of_ble_eq_true rfl) dX4_parse_169 (fun H locs hP hD hS => ?_)
                    have hP : va_P (dC, dI) vwCl (wM cA m0 m1 m2 m3 m4 m5 m6 m7 m8 m9 (nI 0) row sz1 nd tg2_35 st2_35 ln2_35 pa2_35 0 pl2_35 ar2_35 dp2_35 at2_35 rs2_35 fd2_35 pl2_35 tx2_35 ou wr op on dn) H := hP
                    have hD : va_D A (wM cA m0 m1 m2 m3 m4 m5 m6 m7 m8 m9 (nI 0) row sz1 nd tg2_35 st2_35 ln2_35 pa2_35 0 pl2_35 ar2_35 dp2_35 at2_35 rs2_35 fd2_35 pl2_35 tx2_35 ou wr op on dn) := hD
                    refine lv_aload_n hx hb dX4_parse_172 rfl (lv_at hl 1 rfl) ?_
                    refine lv_aload_n hx hb dX4_parse_173 rfl (lv_at hl 1 rfl) ?_
                    refine va_get (D := (dC, dI)) (ci := 3) (v := .int rs2_35) (C := RX4) (T := TX4) (N := 22) hx hb hts hinX4 hown hK hP 0 rfl rfl 13 (by decide) hf_55 (fun _ h9 => h9) rfl dX4_parse_174 ?_
                    refine lv_if_ne (tgt := 184) hx hb dX4_parse_177 (by decide) (fun c_39 => ?_) (fun c_39 => absurd c_39 hne)
                    refine lv_iconst (v := nI 0) hx hb dX4_parse_184 (by decide) ?_
                    refine va_put (D := (dC, dI)) (ci := 3) (v := .int (nI 0)) (ty := .boolean) (C := RX4) (T := TX4) (N := 22) hx hb hts hinX4 tyX4 tyX4_ok nmX4 hown hK hP hD hS 0 rfl rfl 8 (by decide) hf_51 (fun _ h9 => h9) rfl (by decide +kernel) rfl rfl (Nat.le_of_ble_eq_true rfl) dX4_parse_185 (fun H locs hP hD hS => ?_)
                    have hP : va_P (dC, dI) vwCl (wM cA m0 m1 m2 m3 m4 m5 m6 m7 m8 m9 (nI 0) row sz1 nd tg2_35 st2_35 ln2_35 pa2_35 0 pl2_35 ar2_35 dp2_35 at2_35 rs2_35 fd2_35 pl2_35 tx2_35 ou wr op on dn) H := hP
                    have hD : va_D A (wM cA m0 m1 m2 m3 m4 m5 m6 m7 m8 m9 (nI 0) row sz1 nd tg2_35 st2_35 ln2_35 pa2_35 0 pl2_35 ar2_35 dp2_35 at2_35 rs2_35 fd2_35 pl2_35 tx2_35 ou wr op on dn) := hD
                    refine lv_aload_n hx hb dX4_parse_188 rfl (lv_at hl 1 rfl) ?_
                    refine lv_aload_n hx hb dX4_parse_189 rfl (lv_at hl 1 rfl) ?_
                    refine va_get (D := (dC, dI)) (ci := 3) (v := .int (nI fd2_35)) (C := RX4) (T := TX4) (N := 22) hx hb hts hinX4 hown hK hP 0 rfl rfl 14 (by decide) hf_78 (fun _ h9 => h9) rfl dX4_parse_190 ?_
                    refine va_put (D := (dC, dI)) (ci := 3) (v := .int (nI fd2_35)) (ty := .int) (C := RX4) (T := TX4) (N := 22) hx hb hts hinX4 tyX4 tyX4_ok nmX4 hown hK hP hD hS 0 rfl rfl 3 (by decide) hf_91 (fun _ h9 => h9) rfl (by decide +kernel) rfl rfl (Nat.le_of_ble_eq_true rfl) dX4_parse_193 (fun H locs hP hD hS => ?_)
                    have hP : va_P (dC, dI) vwCl (wM cA m0 m1 m2 m3 m4 m5 m6 m7 m8 m9 (nI 0) row sz1 fd2_35 tg2_35 st2_35 ln2_35 pa2_35 0 pl2_35 ar2_35 dp2_35 at2_35 rs2_35 fd2_35 pl2_35 tx2_35 ou wr op on dn) H := hP
                    have hD : va_D A (wM cA m0 m1 m2 m3 m4 m5 m6 m7 m8 m9 (nI 0) row sz1 fd2_35 tg2_35 st2_35 ln2_35 pa2_35 0 pl2_35 ar2_35 dp2_35 at2_35 rs2_35 fd2_35 pl2_35 tx2_35 ou wr op on dn) := hD
                    refine lv_aload_n hx hb dX4_parse_196 rfl (lv_at hl 1 rfl) ?_
                    refine va_get (D := (dC, dI)) (ci := 3) (v := .int rs2_35) (C := RX4) (T := TX4) (N := 22) hx hb hts hinX4 hown hK hP 0 rfl rfl 13 (by decide) hf_55 (fun _ h9 => h9) rfl dX4_parse_197 ?_
                    have hP9 : va_P (dC, dI) vwCl (vX4_parse cA m0 m1 m2 m3 m4 m5 m6 m7 m8 m9 cd row sz1 nd tg st ln pa rd of ar dp at_ rs fd pl tx ou wr op on dn (nI 0, fd2_35, 0, pl2_35, rs2_35, pl2_35, fd2_35, tg2_35, st2_35, ln2_35, pa2_35, ar2_35, dp2_35, at2_35, tx2_35)) _ := hP
                    have hD9 : va_D A (vX4_parse cA m0 m1 m2 m3 m4 m5 m6 m7 m8 m9 cd row sz1 nd tg st ln pa rd of ar dp at_ rs fd pl tx ou wr op on dn (nI 0, fd2_35, 0, pl2_35, rs2_35, pl2_35, fd2_35, tg2_35, st2_35, ln2_35, pa2_35, ar2_35, dp2_35, at2_35, tx2_35)) := hD
                    have hq9 : pX4_parse m0 m1 m2 m3 m4 m5 m6 m7 m8 m9 cd row sz1 nd tg st ln pa rd of ar dp at_ rs fd pl tx ou wr op on dn (rs2_35) (nI 0, fd2_35, 0, pl2_35, rs2_35, pl2_35, fd2_35, tg2_35, st2_35, ln2_35, pa2_35, ar2_35, dp2_35, at2_35, tx2_35) := ⟨Or.inr ⟨hRe, hne, rfl⟩, hb1, hb2, hb3, hb4, hb5, hb6, hb7, hb8, hb6, rfl⟩
                    exact W.iret (v := rs2_35) hx hb hr (fun t ht hW => ⟨⟨rs2_35, (nI 0, fd2_35, 0, pl2_35, rs2_35, pl2_35, fd2_35, tg2_35, st2_35, ln2_35, pa2_35, ar2_35, dp2_35, at2_35, tx2_35), rfl, hq9, by rw [ht]; exact hP9, va_K.moved hW.alike hK, hD9⟩, hS.F ht⟩) hS.2.2 dX4_parse_200
              · refine lv_aload_n hx hb dX4_parse_99 rfl (lv_at hl 1 rfl) ?_
                refine lv_dup hx hb dX4_parse_100 rfl ?_
                refine va_get (D := (dC, dI)) (ci := 3) (v := .int (nI dq)) (C := RX4) (T := TX4) (N := 22) hx hb hts hinX4 hown hK hP 0 rfl rfl 11 (by decide) hf_61 (fun _ h9 => h9) rfl dX4_parse_101 ?_
                refine lv_iconst (v := nI 1) hx hb dX4_parse_104 (by decide) ?_
                refine hl_isub hx hb (by omega) dX4_parse_105 ?_
                refine va_put (D := (dC, dI)) (ci := 3) (v := .int (nI (dq - 1))) (ty := .int) (C := RX4) (T := TX4) (N := 22) hx hb hts hinX4 tyX4 tyX4_ok nmX4 hown hK hP hD hS 0 rfl rfl 11 (by decide) hf_61 (fun _ h9 => h9) rfl (by decide +kernel) rfl rfl (Nat.le_of_ble_eq_true rfl) dX4_parse_106 (fun H locs hP hD hS => ?_)
                have hP : va_P (dC, dI) vwCl (wM cA m0 m1 m2 m3 m4 m5 m6 m7 m8 m9 (nI 0) row sz1 nd tg1 st1 ln1 pa1 0 of ar1 (dq - 1) at1 (nI 0) fd1 (-1) tx1 ou wr op on dn) H := hP
                have hD : va_D A (wM cA m0 m1 m2 m3 m4 m5 m6 m7 m8 m9 (nI 0) row sz1 nd tg1 st1 ln1 pa1 0 of ar1 (dq - 1) at1 (nI 0) fd1 (-1) tx1 ou wr op on dn) := hD
                refine lv_goto (tgt := 52) hx hb dX4_parse_109 (by decide) ?_
                exact ih_52 (dq - 1) (by omega) (by omega) (by rw [← hpop]; exact (popN_go (by omega) (by omega)).symm) _ _ _ hP hD hS (lv_sub hl [0, 1] rfl)
        exact lp_52 (dp1 + 1) dp1 (Nat.lt_succ_self _) (by omega) rfl _ _ _ hP hD hS (lv_sub hl [0, 1] rfl)
    exact lp_41 (65 - (0 + 1) + 1) (nxP row 0 (xn_1, xa_1)) (0 + 1) (nxL row 0 0) (va_up tg 0 (row 0)) (va_up st 0 xa_1) (va_up ln 0 xn_1) (nxA row 0 0 0 ar) (upd pa 0 (parI 0 ar)) tx2_1 (Nat.lt_succ_self _) (aft_of hrow hsz (PInv.start htg hst hln har) hval rfl) hb5 _ _ _ hP hD hS (lv_sub hl [0, 1] rfl)
  · have hRe : runS row sz1 65 (0, 0, 0, tg, st, ln, ar, pa) = .inl (rs2_1, pl2_1) := run_err hval_1
    have hne := hne_1
    refine lv_iconst (v := nI 1) hx hb dX4_parse_39 (by decide) ?_
    refine lv_istore_n (lv' := [(1, .int (nI 1)), (0, .ref m0)]) hx hb dX4_parse_40 rfl hl (by decide) rfl (fun ls hl => ?_)
    refine lv_iload_n hx hb dX4_parse_41 rfl (lv_at hl 0 rfl) ?_
    refine hl_if_eq (tgt := 136) hx hb dX4_parse_42 (by decide) (by omega) (fun c_40 => absurd c_40 (by decide)) (fun c_40 => ?_)
    refine lv_aload_n hx hb dX4_parse_45 rfl (lv_at hl 1 rfl) ?_
    refine va_get (D := (dC, dI)) (ci := 3) (v := .int rs2_1) (C := RX4) (T := TX4) (N := 22) hx hb hts hinX4 hown hK hP 0 rfl rfl 13 (by decide) hf_55 (fun _ h9 => h9) rfl dX4_parse_46 ?_
    refine lv_if_ne (tgt := 136) hx hb dX4_parse_49 (by decide) (fun c_41 => ?_) (fun c_41 => absurd c_41 hne)
    refine lv_aload_n hx hb dX4_parse_136 rfl (lv_at hl 1 rfl) ?_
    refine va_get (D := (dC, dI)) (ci := 3) (v := .int rs2_1) (C := RX4) (T := TX4) (N := 22) hx hb hts hinX4 hown hK hP 0 rfl rfl 13 (by decide) hf_55 (fun _ h9 => h9) rfl dX4_parse_137 ?_
    refine lv_if_ne (tgt := 164) hx hb dX4_parse_140 (by decide) (fun c_42 => ?_) (fun c_42 => absurd c_42 hne)
    refine lv_aload_n hx hb dX4_parse_164 rfl (lv_at hl 1 rfl) ?_
    refine lv_aload_n hx hb dX4_parse_165 rfl (lv_at hl 1 rfl) ?_
    refine va_get (D := (dC, dI)) (ci := 3) (v := .int pl2_1) (C := RX4) (T := TX4) (N := 22) hx hb hts hinX4 hown hK hP 0 rfl rfl 15 (by decide) hf_58 (fun _ h9 => h9) rfl dX4_parse_166 ?_
    refine va_put (D := (dC, dI)) (ci := 3) (v := .int pl2_1) (ty := .int) (C := RX4) (T := TX4) (N := 22) hx hb hts hinX4 tyX4 tyX4_ok nmX4 hown hK hP hD hS 0 rfl rfl 9 (by decide) hf_25 (fun _ h9 => h9) rfl (by decide +kernel) rfl rfl (Nat.le_of_ble_eq_true rfl) dX4_parse_169 (fun H locs hP hD hS => ?_)
    have hP : va_P (dC, dI) vwCl (wM cA m0 m1 m2 m3 m4 m5 m6 m7 m8 m9 (nI 0) row sz1 nd tg2_1 st2_1 ln2_1 pa2_1 0 pl2_1 ar2_1 dp2_1 at2_1 rs2_1 fd2_1 pl2_1 tx2_1 ou wr op on dn) H := hP
    have hD : va_D A (wM cA m0 m1 m2 m3 m4 m5 m6 m7 m8 m9 (nI 0) row sz1 nd tg2_1 st2_1 ln2_1 pa2_1 0 pl2_1 ar2_1 dp2_1 at2_1 rs2_1 fd2_1 pl2_1 tx2_1 ou wr op on dn) := hD
    refine lv_aload_n hx hb dX4_parse_172 rfl (lv_at hl 1 rfl) ?_
    refine lv_aload_n hx hb dX4_parse_173 rfl (lv_at hl 1 rfl) ?_
    refine va_get (D := (dC, dI)) (ci := 3) (v := .int rs2_1) (C := RX4) (T := TX4) (N := 22) hx hb hts hinX4 hown hK hP 0 rfl rfl 13 (by decide) hf_55 (fun _ h9 => h9) rfl dX4_parse_174 ?_
    refine lv_if_ne (tgt := 184) hx hb dX4_parse_177 (by decide) (fun c_43 => ?_) (fun c_43 => absurd c_43 hne)
    refine lv_iconst (v := nI 0) hx hb dX4_parse_184 (by decide) ?_
    refine va_put (D := (dC, dI)) (ci := 3) (v := .int (nI 0)) (ty := .boolean) (C := RX4) (T := TX4) (N := 22) hx hb hts hinX4 tyX4 tyX4_ok nmX4 hown hK hP hD hS 0 rfl rfl 8 (by decide) hf_51 (fun _ h9 => h9) rfl (by decide +kernel) rfl rfl (Nat.le_of_ble_eq_true rfl) dX4_parse_185 (fun H locs hP hD hS => ?_)
    have hP : va_P (dC, dI) vwCl (wM cA m0 m1 m2 m3 m4 m5 m6 m7 m8 m9 (nI 0) row sz1 nd tg2_1 st2_1 ln2_1 pa2_1 0 pl2_1 ar2_1 dp2_1 at2_1 rs2_1 fd2_1 pl2_1 tx2_1 ou wr op on dn) H := hP
    have hD : va_D A (wM cA m0 m1 m2 m3 m4 m5 m6 m7 m8 m9 (nI 0) row sz1 nd tg2_1 st2_1 ln2_1 pa2_1 0 pl2_1 ar2_1 dp2_1 at2_1 rs2_1 fd2_1 pl2_1 tx2_1 ou wr op on dn) := hD
    refine lv_aload_n hx hb dX4_parse_188 rfl (lv_at hl 1 rfl) ?_
    refine lv_aload_n hx hb dX4_parse_189 rfl (lv_at hl 1 rfl) ?_
    refine va_get (D := (dC, dI)) (ci := 3) (v := .int (nI fd2_1)) (C := RX4) (T := TX4) (N := 22) hx hb hts hinX4 hown hK hP 0 rfl rfl 14 (by decide) hf_78 (fun _ h9 => h9) rfl dX4_parse_190 ?_
    refine va_put (D := (dC, dI)) (ci := 3) (v := .int (nI fd2_1)) (ty := .int) (C := RX4) (T := TX4) (N := 22) hx hb hts hinX4 tyX4 tyX4_ok nmX4 hown hK hP hD hS 0 rfl rfl 3 (by decide) hf_91 (fun _ h9 => h9) rfl (by decide +kernel) rfl rfl (Nat.le_of_ble_eq_true rfl) dX4_parse_193 (fun H locs hP hD hS => ?_)
    have hP : va_P (dC, dI) vwCl (wM cA m0 m1 m2 m3 m4 m5 m6 m7 m8 m9 (nI 0) row sz1 fd2_1 tg2_1 st2_1 ln2_1 pa2_1 0 pl2_1 ar2_1 dp2_1 at2_1 rs2_1 fd2_1 pl2_1 tx2_1 ou wr op on dn) H := hP
    have hD : va_D A (wM cA m0 m1 m2 m3 m4 m5 m6 m7 m8 m9 (nI 0) row sz1 fd2_1 tg2_1 st2_1 ln2_1 pa2_1 0 pl2_1 ar2_1 dp2_1 at2_1 rs2_1 fd2_1 pl2_1 tx2_1 ou wr op on dn) := hD
    refine lv_aload_n hx hb dX4_parse_196 rfl (lv_at hl 1 rfl) ?_
    refine va_get (D := (dC, dI)) (ci := 3) (v := .int rs2_1) (C := RX4) (T := TX4) (N := 22) hx hb hts hinX4 hown hK hP 0 rfl rfl 13 (by decide) hf_55 (fun _ h9 => h9) rfl dX4_parse_197 ?_
    have hP9 : va_P (dC, dI) vwCl (vX4_parse cA m0 m1 m2 m3 m4 m5 m6 m7 m8 m9 cd row sz1 nd tg st ln pa rd of ar dp at_ rs fd pl tx ou wr op on dn (nI 0, fd2_1, 0, pl2_1, rs2_1, pl2_1, fd2_1, tg2_1, st2_1, ln2_1, pa2_1, ar2_1, dp2_1, at2_1, tx2_1)) _ := hP
    have hD9 : va_D A (vX4_parse cA m0 m1 m2 m3 m4 m5 m6 m7 m8 m9 cd row sz1 nd tg st ln pa rd of ar dp at_ rs fd pl tx ou wr op on dn (nI 0, fd2_1, 0, pl2_1, rs2_1, pl2_1, fd2_1, tg2_1, st2_1, ln2_1, pa2_1, ar2_1, dp2_1, at2_1, tx2_1)) := hD
    have hq9 : pX4_parse m0 m1 m2 m3 m4 m5 m6 m7 m8 m9 cd row sz1 nd tg st ln pa rd of ar dp at_ rs fd pl tx ou wr op on dn (rs2_1) (nI 0, fd2_1, 0, pl2_1, rs2_1, pl2_1, fd2_1, tg2_1, st2_1, ln2_1, pa2_1, ar2_1, dp2_1, at2_1, tx2_1) := ⟨Or.inr ⟨hRe, hne, rfl⟩, hb1, hb2, hb3, hb4, hb5, hb6, hb7, hb8, hb6, rfl⟩
    exact W.iret (v := rs2_1) hx hb hr (fun t ht hW => ⟨⟨rs2_1, (nI 0, fd2_1, 0, pl2_1, rs2_1, pl2_1, fd2_1, tg2_1, st2_1, ln2_1, pa2_1, ar2_1, dp2_1, at2_1, tx2_1), rfl, hq9, by rw [ht]; exact hP9, va_K.moved hW.alike hK, hD9⟩, hS.F ht⟩) hS.2.2 dX4_parse_200
