abbrev pX4_value (m0 : Nat) (m1 : Nat) (m2 : Nat) (m3 : Nat) (m4 : Nat) (m5 : Nat) (m6 : Nat) (m7 : Nat) (m8 : Nat) (m9 : Nat) (cd : Int32) (row : Nat → Nat) (sz1 : Nat) (nd : Nat) (tg : Nat → Nat) (st : Nat → Nat) (ln : Nat → Nat) (pa : Nat → Int32) (rd : Nat) (of : Int32) (ar : Nat → Nat) (dp : Nat) (at_ : Nat) (fd : Nat) (pl : Int32) (tx : Nat → Nat) (ou : Nat → Nat) (wr : Nat) (op : Nat → Nat) (on : Nat) (dn : Nat) : Int32 × Int32 × Nat × (Nat → Nat) × (Nat → Nat) × (Nat → Nat) × (Nat → Int32) × (Nat → Nat) × Nat × Nat × (Nat → Nat) × Nat × Nat → Prop := fun (u : Int32 × Int32 × Nat × (Nat → Nat) × (Nat → Nat) × (Nat → Nat) × (Nat → Int32) × (Nat → Nat) × Nat × Nat × (Nat → Nat) × Nat × Nat) => match u with | (rs2, pl2, fd2, tg2, st2, ln2, pa2, ar2, dp2, at2, tx2, xn, xa) => ((valS row sz1 fd dp ar st ln at_ = .inr (xn, xa) ∧ rs2 = nI 0 ∧ pl2 = pl ∧ fd2 = fd + 1 ∧ tg2 = va_up tg fd (row at_) ∧ st2 = va_up st fd xa ∧ ln2 = va_up ln fd xn ∧ pa2 = upd pa fd (parI dp ar) ∧ ar2 = nxA row at_ fd dp ar ∧ dp2 = nxL row at_ dp ∧ at2 = nxP row at_ (xn, xa)) ∨ (valS row sz1 fd dp ar st ln at_ = .inl (rs2, pl2) ∧ rs2 ≠ 0)) ∧ (∀ j, tg2 j < 256) ∧ (∀ j, st2 j < 1000) ∧ (∀ j, ln2 j < 65536) ∧ (∀ j, ar2 j < 64) ∧ (∀ j, tx2 j < 256) ∧ fd2 ≤ 64 ∧ dp2 ≤ 16 ∧ at2 < 70000
abbrev vX4_value (cA : ClassId) (m0 : Nat) (m1 : Nat) (m2 : Nat) (m3 : Nat) (m4 : Nat) (m5 : Nat) (m6 : Nat) (m7 : Nat) (m8 : Nat) (m9 : Nat) (cd : Int32) (row : Nat → Nat) (sz1 : Nat) (nd : Nat) (tg : Nat → Nat) (st : Nat → Nat) (ln : Nat → Nat) (pa : Nat → Int32) (rd : Nat) (of : Int32) (ar : Nat → Nat) (dp : Nat) (at_ : Nat) (fd : Nat) (pl : Int32) (tx : Nat → Nat) (ou : Nat → Nat) (wr : Nat) (op : Nat → Nat) (on : Nat) (dn : Nat) : Int32 × Int32 × Nat × (Nat → Nat) × (Nat → Nat) × (Nat → Nat) × (Nat → Int32) × (Nat → Nat) × Nat × Nat × (Nat → Nat) × Nat × Nat → va_W := fun (u : Int32 × Int32 × Nat × (Nat → Nat) × (Nat → Nat) × (Nat → Nat) × (Nat → Int32) × (Nat → Nat) × Nat × Nat × (Nat → Nat) × Nat × Nat) => match u with | (rs2, pl2, fd2, tg2, st2, ln2, pa2, ar2, dp2, at2, tx2, xn, xa) => wM cA m0 m1 m2 m3 m4 m5 m6 m7 m8 m9 cd row sz1 nd tg2 st2 ln2 pa2 rd of ar2 dp2 at2 rs2 fd2 pl2 tx2 ou wr op on dn
abbrev qX4_value (dC : Nat → ClassId) (dI : Nat → Nat → Nat) (cA : ClassId) (A : Nat → Prop) (m0 : Nat) (m1 : Nat) (m2 : Nat) (m3 : Nat) (m4 : Nat) (m5 : Nat) (m6 : Nat) (m7 : Nat) (m8 : Nat) (m9 : Nat) (cd : Int32) (row : Nat → Nat) (sz1 : Nat) (nd : Nat) (tg : Nat → Nat) (st : Nat → Nat) (ln : Nat → Nat) (pa : Nat → Int32) (rd : Nat) (of : Int32) (ar : Nat → Nat) (dp : Nat) (at_ : Nat) (fd : Nat) (pl : Int32) (tx : Nat → Nat) (ou : Nat → Nat) (wr : Nat) (op : Nat → Nat) (on : Nat) (dn : Nat) : Array Value → State → Outcome → State → Prop := va_Qv (pX4_value m0 m1 m2 m3 m4 m5 m6 m7 m8 m9 cd row sz1 nd tg st ln pa rd of ar dp at_ fd pl tx ou wr op on dn) (fun u => cAft dC dI cA A (vX4_value cA m0 m1 m2 m3 m4 m5 m6 m7 m8 m9 cd row sz1 nd tg st ln pa rd of ar dp at_ fd pl tx ou wr op on dn u)) A
set_option maxHeartbeats 4000000 in
set_option maxRecDepth 100000 in
theorem k_X4_value (l : Launch) (dC : Nat → ClassId) (dI : Nat → Nat → Nat) (cA : ClassId) (m0 : Nat) (m1 : Nat) (m2 : Nat) (m3 : Nat) (m4 : Nat) (m5 : Nat) (m6 : Nat) (m7 : Nat) (m8 : Nat) (m9 : Nat) (cd : Int32) (row : Nat → Nat) (sz1 : Nat) (nd : Nat) (tg : Nat → Nat) (st : Nat → Nat) (ln : Nat → Nat) (pa : Nat → Int32) (rd : Nat) (of : Int32) (ar : Nat → Nat) (dp : Nat) (at_ : Nat) (fd : Nat) (pl : Int32) (tx : Nat → Nat) (ou : Nat → Nat) (wr : Nat) (op : Nat → Nat) (on : Nat) (dn : Nat) (sz : Nat) (hrow : ∀ j, row j < 256) (hsz : sz1 ≤ 300) (htx : ∀ j, tx j < 256) (hI : PInv sz1 at_ fd dp tg st ln ar) : Met l yX4_value wsX4_value ({ frames := 3, cells := 0, slots := 0, locals := 71 } : Room) (va_Pc [.ref m0] (cPre dC dI cA (wM cA m0 m1 m2 m3 m4 m5 m6 m7 m8 m9 cd row sz1 nd tg st ln pa rd of ar dp at_ (nI 0) fd pl tx ou wr op on dn) sz)) (qX4_value dC dI cA (va_A (wM cA m0 m1 m2 m3 m4 m5 m6 m7 m8 m9 cd row sz1 nd tg st ln pa rd of ar dp at_ (nI 0) fd pl tx ou wr op on dn) sz) m0 m1 m2 m3 m4 m5 m6 m7 m8 m9 cd row sz1 nd tg st ln pa rd of ar dp at_ fd pl tx ou wr op on dn) 0 0 (va_A (wM cA m0 m1 m2 m3 m4 m5 m6 m7 m8 m9 cd row sz1 nd tg st ln pa rd of ar dp at_ (nI 0) fd pl tx ou wr op on dn) sz) := by
  refine Met.ofW (cc := cX4_value) (maxL := 5) (ret := none) (by decide) rfl ?_
  intro p e s m args below meth c s₁ B hml hv
  obtain ⟨rfl, hsz, hP, hK, hD0⟩ := hv
  have hx := B.exec
  have hb := B.bytes
  have hr := B.returns
  have hts := atoms_spec (ws := wsX4_value) B.pre
  have hown : s.vm.findClass RX4 = some m.cls := findClass_of_methodNamed B.named
  have hlocks := B.notSynchronized
  subst hsz
  have hD := hD0.self (sz := s.heap.size)
  generalize hAe : va_A (wM cA m0 m1 m2 m3 m4 m5 m6 m7 m8 m9 cd row sz1 nd tg st ln pa rd of ar dp at_ (nI 0) fd pl tx ou wr op on dn) s.heap.size = A at hD ⊢
  have hA : ∀ q : Nat, s.heap.size ≤ q → A q := fun q h => by rw [← hAe]; exact Or.inr h
  have hS : va_S A s.heap s.heap [] := va_S.rf
  have hl := lv_entry ([.ref m0]) (n := 5) (Nat.le_of_ble_eq_true rfl)
  rw [lg_entry_eq]
  generalize (lg_sl ([.ref m0]) ++ List.replicate (5 - (lg_sl ([.ref m0])).length) Slot.unset).toArray = ls at hl ⊢
  have hl : lv_has ls 5 [(0, .ref m0)] := hl
  have hinX4 : ∀ w ∈ wsX40, w ∈ wsX4_value := fun _ h => List.mem_cons_of_mem _ (List.mem_append_right _ h)
  have hf_7 := hts (.fieldLink RX4 7 "DerDeskModel" "row" "[I") (by decide +kernel)
  have hf_13 := hts (.fieldLink RX4 13 "DerDeskModel" "tags" "[I") (by decide +kernel)
  have hf_16 := hts (.fieldLink RX4 16 "DerDeskModel" "starts" "[I") (by decide +kernel)
  have hf_19 := hts (.fieldLink RX4 19 "DerDeskModel" "lengths" "[I") (by decide +kernel)
  have hf_22 := hts (.fieldLink RX4 22 "DerDeskModel" "parents" "[I") (by decide +kernel)
  have hf_29 := hts (.fieldLink RX4 29 "DerDeskModel" "around" "[I") (by decide +kernel)
  have hf_32 := hts (.fieldLink RX4 32 "DerDeskModel" "text" "[I") (by decide +kernel)
  have hf_48 := hts (.fieldLink RX4 48 "DerDeskModel" "size" "I") (by decide +kernel)
  have hf_61 := hts (.fieldLink RX4 61 "DerDeskModel" "depth" "I") (by decide +kernel)
  have hf_72 := hts (.fieldLink RX4 72 "DerDeskModel" "at" "I") (by decide +kernel)
  have hf_78 := hts (.fieldLink RX4 78 "DerDeskModel" "found" "I") (by decide +kernel)
  have hP : va_P (dC, dI) vwCl (wM cA m0 m1 m2 m3 m4 m5 m6 m7 m8 m9 cd row sz1 nd tg st ln pa rd of ar dp at_ (nI 0) fd pl tx ou wr op on dn) s.heap := hP
  obtain ⟨i1, i2, i3, htg, hst, hln, har, i8, i9, i10, i11⟩ := id hI
  have hlim := hI.lim
  refine lv_aload_n hx hb dX4_value_0 rfl (lv_at hl 0 rfl) ?_
  refine va_get (D := (dC, dI)) (ci := 3) (v := .int (nI at_)) (C := RX4) (T := TX4) (N := 22) hx hb hts hinX4 hown hK hP 0 rfl rfl 12 (by decide) hf_72 (fun _ h9 => h9) rfl dX4_value_1 ?_
  refine lv_istore_n (lv' := [(1, .int (nI at_)), (0, .ref m0)]) hx hb dX4_value_4 rfl hl (by decide) rfl (fun ls hl => ?_)
  refine lv_aload_n hx hb dX4_value_5 rfl (lv_at hl 1 rfl) ?_
  refine lv_iload_n hx hb dX4_value_6 rfl (lv_at hl 0 rfl) ?_
  refine lv_iload_n hx hb dX4_value_7 rfl (lv_at hl 0 rfl) ?_
  refine cl_Vi (As := [.int (nI at_), .int (nI at_)]) (rest := []) (wr := []) ⟨hx, hb, hml, hown, hts⟩ (k_X4_isMissing l dC dI cA m0 m1 m2 m3 m4 m5 m6 m7 m8 m9 cd row sz1 nd tg st ln pa rd of ar dp at_ (nI 0) fd pl tx ou wr op on dn at_ at_ _ hrow htg hst hln har (by omega) (by omega) (by omega)) (cwV 2 hts gX4_value_X4_isMissing rfl rfl rfl (by decide +kernel) ⟨Nat.le_of_ble_eq_true rfl, Nat.le_of_ble_eq_true rfl⟩) hK hP hD hS hA [0, 1, 2, 3, 4, 5, 6, 7, 8, 9] [] rfl rfl (by decide) (by decide) (by decide) (ci := 3) (q0 := 0) rfl rfl rfl rfl hl.1 rfl (Nat.le_of_ble_eq_true rfl) dX4_value_8 ⟨Nat.le_of_ble_eq_true rfl, Nat.le_of_ble_eq_true rfl⟩ (fun r_1 u_1 H locs hw_1 hP hD hS => ?_)
  obtain ⟨rs2_1, pl2_1⟩ := u_1
  have hP : va_P (dC, dI) vwCl (wM cA m0 m1 m2 m3 m4 m5 m6 m7 m8 m9 cd row sz1 nd tg st ln pa rd of ar dp at_ rs2_1 fd pl2_1 tx ou wr op on dn) H := hP
  have hD : va_D A (wM cA m0 m1 m2 m3 m4 m5 m6 m7 m8 m9 cd row sz1 nd tg st ln pa rd of ar dp at_ rs2_1 fd pl2_1 tx ou wr op on dn) := hD
  have hw_1 : (¬ limN sz1 dp ar st ln ≤ at_ ∧ r_1 = nI 0 ∧ rs2_1 = (nI 0) ∧ pl2_1 = pl) ∨ (limN sz1 dp ar st ln ≤ at_ ∧ r_1 = nI 1 ∧ (rs2_1, pl2_1) = cutE dp sz1 at_) := hw_1
  rcases hw_1 with ⟨hms_1, e1_1, e2_1, e3_1⟩ | ⟨hms_1, e1_1, hcut_1⟩
  · have e1_1 := e1_1.symm
    subst e1_1
    have e2_1 := e2_1.symm
    subst e2_1
    have e3_1 := e3_1.symm
    subst e3_1
    have hL1 : at_ < sz1 := by omega
    refine hl_if_eq (tgt := 15) hx hb dX4_value_11 (by decide) (by omega) (fun c_2 => ?_) (fun c_2 => absurd c_2 (by decide))
    refine lv_aload_n hx hb dX4_value_15 rfl (lv_at hl 1 rfl) ?_
    refine va_get (D := (dC, dI)) (ci := 3) (v := .ref m1) (C := RX4) (T := TX4) (N := 22) hx hb hts hinX4 hown hK hP 0 rfl rfl 1 (by decide) hf_7 (fun _ h9 => h9) rfl dX4_value_16 ?_
    refine lv_iload_n hx hb dX4_value_19 rfl (lv_at hl 0 rfl) ?_
    refine hl_iald hx hb hK hP 1 0 rfl rfl (by omega) (by decide) dX4_value_20 ?_
    have hv_3 := hrow at_
    refine cl_Si (As := [.int (nI (row at_))]) (rest := []) (wr := [(m0, .inr (3, [.int cd, .ref m1, .int (nI sz1), .int (nI nd), .ref m2, .ref m3, .ref m4, .ref m5, .int (nI rd), .int of, .ref m6, .int (nI dp), .int (nI at_), .int (nI 0), .int (nI fd), .int pl, .ref m7, .ref m8, .int (nI wr), .ref m9, .int (nI on), .int (nI dn)])), (m1, .inl (cA, 300, .inl (nA row))), (m2, .inl (cA, 64, .inl (nA tg))), (m3, .inl (cA, 64, .inl (nA st))), (m4, .inl (cA, 64, .inl (nA ln))), (m5, .inl (cA, 64, .inl (pa))), (m6, .inl (cA, 17, .inl (nA ar))), (m7, .inl (cA, 300, .inl (nA tx))), (m8, .inl (cA, 300, .inl (nA ou))), (m9, .inl (cA, 16, .inl (nA op)))]) ⟨hx, hb, hml, hown, hts⟩ (k_X4_isTag l dC dI cA (nI (row at_)) _ ) (va_cwS 1 hts gX4_value_X4_isTag rfl rfl rfl (by decide +kernel) ⟨Nat.le_of_ble_eq_true rfl, Nat.le_of_ble_eq_true rfl⟩) hK hP hD hS hA [] [0, 1, 2, 3, 4, 5, 6, 7, 8, 9] rfl rfl (by decide) (by decide) (by decide) rfl hl.1 rfl (Nat.le_of_ble_eq_true rfl) dX4_value_21 ⟨Nat.le_of_ble_eq_true rfl, Nat.le_of_ble_eq_true rfl⟩ (fun r_4 u_4 H locs hw_4 hP hD hS => ?_)
    have hP : va_P (dC, dI) vwCl (wM cA m0 m1 m2 m3 m4 m5 m6 m7 m8 m9 cd row sz1 nd tg st ln pa rd of ar dp at_ (nI 0) fd pl tx ou wr op on dn) H := hP
    have hD : va_D A (wM cA m0 m1 m2 m3 m4 m5 m6 m7 m8 m9 cd row sz1 nd tg st ln pa rd of ar dp at_ (nI 0) fd pl tx ou wr op on dn) := hD
    have hw_4 : r_4 = if isId (nI (row at_)) then 1 else 0 := hw_4
    have hw_4 := hw_4.symm
    subst hw_4
    refine hl_ifb_ne (tgt := 35) hx hb dX4_value_24 (by decide) (fun c_5 => ?_) (fun c_5 => ?_)
    · refine lv_aload_n hx hb dX4_value_35 rfl (lv_at hl 1 rfl) ?_
      refine va_get (D := (dC, dI)) (ci := 3) (v := .int (nI fd)) (C := RX4) (T := TX4) (N := 22) hx hb hts hinX4 hown hK hP 0 rfl rfl 14 (by decide) hf_78 (fun _ h9 => h9) rfl dX4_value_36 ?_
      refine lv_bipush (v := nI 64) hx hb dX4_value_39 (by decide) ?_
      refine hl_icmp_eq (tgt := 53) hx hb dX4_value_41 (by decide) (by omega) (by omega) (fun c_6 => ?_) (fun c_6 => ?_)
      · refine lv_aload_n hx hb dX4_value_53 rfl (lv_at hl 1 rfl) ?_
        refine lv_bipush (v := (-7)) hx hb dX4_value_54 (by decide) ?_
        refine lv_iload_n hx hb dX4_value_56 rfl (lv_at hl 0 rfl) ?_
        refine cl_Vv (As := [.int (-7), .int (nI at_)]) (rest := []) (wr := []) ⟨hx, hb, hml, hown, hts⟩ (k_X4_fail l dC dI cA m0 m1 m2 m3 m4 m5 m6 m7 m8 m9 cd row sz1 nd tg st ln pa rd of ar dp at_ (nI 0) fd pl tx ou wr op on dn (-7) (nI at_) _ ) (cwV 2 hts gX4_value_X4_fail rfl rfl rfl (by decide +kernel) ⟨Nat.le_of_ble_eq_true rfl, Nat.le_of_ble_eq_true rfl⟩) hK hP hD hS hA [0, 1, 2, 3, 4, 5, 6, 7, 8, 9] [] rfl rfl (by decide) (by decide) (by decide) (ci := 3) (q0 := 0) rfl rfl rfl rfl hl.1 rfl (Nat.le_of_ble_eq_true rfl) dX4_value_57 ⟨Nat.le_of_ble_eq_true rfl, Nat.le_of_ble_eq_true rfl⟩ (fun u_7 H locs hw_7 hP hD hS => ?_)
        obtain ⟨rs2_7, pl2_7⟩ := u_7
        have hP : va_P (dC, dI) vwCl (wM cA m0 m1 m2 m3 m4 m5 m6 m7 m8 m9 cd row sz1 nd tg st ln pa rd of ar dp at_ rs2_7 fd pl2_7 tx ou wr op on dn) H := hP
        have hD : va_D A (wM cA m0 m1 m2 m3 m4 m5 m6 m7 m8 m9 cd row sz1 nd tg st ln pa rd of ar dp at_ rs2_7 fd pl2_7 tx ou wr op on dn) := hD
        have hw_7 : rs2_7 = (-7) ∧ pl2_7 = (nI at_) := hw_7
        obtain ⟨e0_7, e1_7⟩ := hw_7
        have e0_7 := e0_7.symm
        subst e0_7
        have e1_7 := e1_7.symm
        subst e1_7
        have hP9 : va_P (dC, dI) vwCl (vX4_value cA m0 m1 m2 m3 m4 m5 m6 m7 m8 m9 cd row sz1 nd tg st ln pa rd of ar dp at_ fd pl tx ou wr op on dn ((-7), (nI at_), fd, tg, st, ln, pa, ar, dp, at_, tx, 0, 0)) _ := hP
        have hD9 : va_D A (vX4_value cA m0 m1 m2 m3 m4 m5 m6 m7 m8 m9 cd row sz1 nd tg st ln pa rd of ar dp at_ fd pl tx ou wr op on dn ((-7), (nI at_), fd, tg, st, ln, pa, ar, dp, at_, tx, 0, 0)) := hD
        have hq9 : pX4_value m0 m1 m2 m3 m4 m5 m6 m7 m8 m9 cd row sz1 nd tg st ln pa rd of ar dp at_ fd pl tx ou wr op on dn ((-7), (nI at_), fd, tg, st, ln, pa, ar, dp, at_, tx, 0, 0) := ⟨Or.inr ⟨by unfold valS idS; rw [if_neg (by omega), if_neg (fun h => h (by assumption)), if_pos (by omega)], by decide⟩, htg, hst, hln, har, htx, by omega, by omega, by omega⟩
        exact W.vret hx hb hr (fun t ht hW => ⟨⟨((-7), (nI at_), fd, tg, st, ln, pa, ar, dp, at_, tx, 0, 0), rfl, hq9, by rw [ht]; exact hP9, va_K.moved hW.alike hK, hD9⟩, hS.F ht⟩) hS.2.2 dX4_value_60
      · refine lv_aload_n hx hb dX4_value_44 rfl (lv_at hl 1 rfl) ?_
        refine va_get (D := (dC, dI)) (ci := 3) (v := .int (nI dp)) (C := RX4) (T := TX4) (N := 22) hx hb hts hinX4 hown hK hP 0 rfl rfl 11 (by decide) hf_61 (fun _ h9 => h9) rfl dX4_value_45 ?_
        refine lv_bipush (v := nI 16) hx hb dX4_value_48 (by decide) ?_
        refine hl_icmp_ne (tgt := 61) hx hb dX4_value_50 (by decide) (by omega) (by omega) (fun c_8 => ?_) (fun c_8 => ?_)
        · have hidn : idS row sz1 fd dp at_ = none := by unfold idS; rw [if_neg (by omega), if_neg (fun h => h (by assumption)), if_neg (by omega)]
          refine lv_aload_n hx hb dX4_value_61 rfl (lv_at hl 1 rfl) ?_
          refine lv_iload_n hx hb dX4_value_62 rfl (lv_at hl 0 rfl) ?_
          refine cl_Vi (As := [.int (nI at_)]) (rest := []) (wr := []) ⟨hx, hb, hml, hown, hts⟩ (k_X4_length l dC dI cA m0 m1 m2 m3 m4 m5 m6 m7 m8 m9 cd row sz1 nd tg st ln pa rd of ar dp at_ (nI 0) fd pl tx ou wr op on dn at_ _ hrow htg hst hln har (by omega) (by omega) (by omega) (by omega)) (cwV 1 hts gX4_value_X4_length rfl rfl rfl (by decide +kernel) ⟨Nat.le_of_ble_eq_true rfl, Nat.le_of_ble_eq_true rfl⟩) hK hP hD hS hA [0, 1, 2, 3, 4, 5, 6, 7, 8, 9] [] rfl rfl (by decide) (by decide) (by decide) (ci := 3) (q0 := 0) rfl rfl rfl rfl hl.1 rfl (Nat.le_of_ble_eq_true rfl) dX4_value_63 ⟨Nat.le_of_ble_eq_true rfl, Nat.le_of_ble_eq_true rfl⟩ (fun r_9 u_9 H locs hw_9 hP hD hS => ?_)
          obtain ⟨at2_9, rs2_9, pl2_9, xn_9, xa_9⟩ := u_9
          have hP : va_P (dC, dI) vwCl (wM cA m0 m1 m2 m3 m4 m5 m6 m7 m8 m9 cd row sz1 nd tg st ln pa rd of ar dp at2_9 rs2_9 fd pl2_9 tx ou wr op on dn) H := hP
          have hD : va_D A (wM cA m0 m1 m2 m3 m4 m5 m6 m7 m8 m9 cd row sz1 nd tg st ln pa rd of ar dp at2_9 rs2_9 fd pl2_9 tx ou wr op on dn) := hD
          have hw_9 : (lenS row (limN sz1 dp ar st ln) dp sz1 at_ = .inr (xn_9, xa_9) ∧ r_9 = nI xn_9 ∧ at2_9 = xa_9 ∧ rs2_9 = (nI 0) ∧ pl2_9 = pl) ∨ (lenS row (limN sz1 dp ar st ln) dp sz1 at_ = .inl (rs2_9, pl2_9) ∧ r_9 = -1 ∧ rs2_9 ≠ 0 ∧ at2_9 = at_) := hw_9
          rcases hw_9 with ⟨hle_9, e1_9, e2_9, e3_9, e4_9⟩ | ⟨hle_9, e1_9, hne_9, e3_9⟩
          · have e1_9 := e1_9.symm
            subst e1_9
            have e2_9 := e2_9.symm
            subst e2_9
            have e3_9 := e3_9.symm
            subst e3_9
            have e4_9 := e4_9.symm
            subst e4_9
            have hlo := lenS_ok hrow hle_9
            dsimp only at hlo
            refine lv_istore_n (lv' := [(2, .int (nI xn_9)), (1, .int (nI at_)), (0, .ref m0)]) hx hb dX4_value_66 rfl hl (by decide) rfl (fun ls hl => ?_)
            refine lv_iload_n hx hb dX4_value_67 rfl (lv_at hl 0 rfl) ?_
            refine lv_iconst (v := (-1)) hx hb dX4_value_68 (by decide) ?_
            refine lv_icmp_ne (tgt := 73) hx hb dX4_value_69 (by decide) (fun c_10 => ?_) (fun c_10 => absurd c_10 (nI_ne1 (by omega)))
            refine lv_aload_n hx hb dX4_value_73 rfl (lv_at hl 2 rfl) ?_
            refine va_get (D := (dC, dI)) (ci := 3) (v := .int (nI dp)) (C := RX4) (T := TX4) (N := 22) hx hb hts hinX4 hown hK hP 0 rfl rfl 11 (by decide) hf_61 (fun _ h9 => h9) rfl dX4_value_74 ?_
            refine hl_if_ne (tgt := 87) hx hb dX4_value_77 (by decide) (by omega) (fun c_11 => ?_) (fun c_11 => ?_)
            · refine lv_aload_n hx hb dX4_value_87 rfl (lv_at hl 2 rfl) ?_
              refine va_get (D := (dC, dI)) (ci := 3) (v := .ref m3) (C := RX4) (T := TX4) (N := 22) hx hb hts hinX4 hown hK hP 0 rfl rfl 5 (by decide) hf_16 (fun _ h9 => h9) rfl dX4_value_88 ?_
              refine lv_aload_n hx hb dX4_value_91 rfl (lv_at hl 2 rfl) ?_
              refine va_get (D := (dC, dI)) (ci := 3) (v := .ref m6) (C := RX4) (T := TX4) (N := 22) hx hb hts hinX4 hown hK hP 0 rfl rfl 10 (by decide) hf_29 (fun _ h9 => h9) rfl dX4_value_92 ?_
              refine lv_aload_n hx hb dX4_value_95 rfl (lv_at hl 2 rfl) ?_
              refine va_get (D := (dC, dI)) (ci := 3) (v := .int (nI dp)) (C := RX4) (T := TX4) (N := 22) hx hb hts hinX4 hown hK hP 0 rfl rfl 11 (by decide) hf_61 (fun _ h9 => h9) rfl dX4_value_96 ?_
              refine lv_iconst (v := nI 1) hx hb dX4_value_99 (by decide) ?_
              refine hl_isub hx hb (by omega) dX4_value_100 ?_
              refine hl_iald hx hb hK hP 6 0 rfl rfl (by omega) (by decide) dX4_value_101 ?_
              have hv_12 := har (dp - 1)
              refine hl_iald hx hb hK hP 3 0 rfl rfl (by omega) (by decide) dX4_value_102 ?_
              have hv_13 := hst (ar (dp - 1))
              refine lv_aload_n hx hb dX4_value_103 rfl (lv_at hl 2 rfl) ?_
              refine va_get (D := (dC, dI)) (ci := 3) (v := .ref m4) (C := RX4) (T := TX4) (N := 22) hx hb hts hinX4 hown hK hP 0 rfl rfl 6 (by decide) hf_19 (fun _ h9 => h9) rfl dX4_value_104 ?_
              refine lv_aload_n hx hb dX4_value_107 rfl (lv_at hl 2 rfl) ?_
              refine va_get (D := (dC, dI)) (ci := 3) (v := .ref m6) (C := RX4) (T := TX4) (N := 22) hx hb hts hinX4 hown hK hP 0 rfl rfl 10 (by decide) hf_29 (fun _ h9 => h9) rfl dX4_value_108 ?_
              refine lv_aload_n hx hb dX4_value_111 rfl (lv_at hl 2 rfl) ?_
              refine va_get (D := (dC, dI)) (ci := 3) (v := .int (nI dp)) (C := RX4) (T := TX4) (N := 22) hx hb hts hinX4 hown hK hP 0 rfl rfl 11 (by decide) hf_61 (fun _ h9 => h9) rfl dX4_value_112 ?_
              refine lv_iconst (v := nI 1) hx hb dX4_value_115 (by decide) ?_
              refine hl_isub hx hb (by omega) dX4_value_116 ?_
              refine hl_iald hx hb hK hP 6 0 rfl rfl (by omega) (by decide) dX4_value_117 ?_
              have hv_14 := har (dp - 1)
              refine hl_iald hx hb hK hP 4 0 rfl rfl (by omega) (by decide) dX4_value_118 ?_
              have hv_15 := hln (ar (dp - 1))
              refine hl_iadd hx hb dX4_value_119 ?_
              refine lv_istore_n (lv' := [(3, .int (nI ((st (ar (dp - 1))) + (ln (ar (dp - 1)))))), (2, .int (nI xn_9)), (1, .int (nI at_)), (0, .ref m0)]) hx hb dX4_value_120 rfl hl (by decide) rfl (fun ls hl => ?_)
              have hLE : limN sz1 dp ar st ln = (st (ar (dp - 1))) + (ln (ar (dp - 1))) := by unfold limN; first | rw [if_pos (by assumption)] | rw [if_neg (by assumption)]
              refine lv_aload_n hx hb dX4_value_121 rfl (lv_at hl 3 rfl) ?_
              refine va_get (D := (dC, dI)) (ci := 3) (v := .int (nI xa_9)) (C := RX4) (T := TX4) (N := 22) hx hb hts hinX4 hown hK hP 0 rfl rfl 12 (by decide) hf_72 (fun _ h9 => h9) rfl dX4_value_122 ?_
              refine lv_iload_n hx hb dX4_value_125 rfl (lv_at hl 1 rfl) ?_
              refine hl_iadd hx hb dX4_value_126 ?_
              refine lv_iload_n hx hb dX4_value_127 rfl (lv_at hl 0 rfl) ?_
              refine hl_icmp_le (tgt := 139) hx hb dX4_value_128 (by decide) (by omega) (by omega) (fun c_16 => ?_) (fun c_16 => ?_)
              · refine lv_aload_n hx hb dX4_value_139 rfl (lv_at hl 3 rfl) ?_
                refine va_get (D := (dC, dI)) (ci := 3) (v := .ref m2) (C := RX4) (T := TX4) (N := 22) hx hb hts hinX4 hown hK hP 0 rfl rfl 4 (by decide) hf_13 (fun _ h9 => h9) rfl dX4_value_140 ?_
                refine lv_aload_n hx hb dX4_value_143 rfl (lv_at hl 3 rfl) ?_
                refine va_get (D := (dC, dI)) (ci := 3) (v := .int (nI fd)) (C := RX4) (T := TX4) (N := 22) hx hb hts hinX4 hown hK hP 0 rfl rfl 14 (by decide) hf_78 (fun _ h9 => h9) rfl dX4_value_144 ?_
                refine lv_aload_n hx hb dX4_value_147 rfl (lv_at hl 3 rfl) ?_
                refine va_get (D := (dC, dI)) (ci := 3) (v := .ref m1) (C := RX4) (T := TX4) (N := 22) hx hb hts hinX4 hown hK hP 0 rfl rfl 1 (by decide) hf_7 (fun _ h9 => h9) rfl dX4_value_148 ?_
                refine lv_iload_n hx hb dX4_value_151 rfl (lv_at hl 2 rfl) ?_
                refine hl_iald hx hb hK hP 1 0 rfl rfl (by omega) (by decide) dX4_value_152 ?_
                have hv_17 := hrow at_
                refine hl_iast hx hb hK hP hD hS 2 0 rfl rfl (by omega) (by decide) dX4_value_153 (fun H locs hP hD hS => ?_)
                have hP : va_P (dC, dI) vwCl (wM cA m0 m1 m2 m3 m4 m5 m6 m7 m8 m9 cd row sz1 nd (va_up tg fd (row at_)) st ln pa rd of ar dp xa_9 (nI 0) fd pl tx ou wr op on dn) H := hP
                have hD : va_D A (wM cA m0 m1 m2 m3 m4 m5 m6 m7 m8 m9 cd row sz1 nd (va_up tg fd (row at_)) st ln pa rd of ar dp xa_9 (nI 0) fd pl tx ou wr op on dn) := hD
                refine lv_aload_n hx hb dX4_value_154 rfl (lv_at hl 3 rfl) ?_
                refine va_get (D := (dC, dI)) (ci := 3) (v := .ref m3) (C := RX4) (T := TX4) (N := 22) hx hb hts hinX4 hown hK hP 0 rfl rfl 5 (by decide) hf_16 (fun _ h9 => h9) rfl dX4_value_155 ?_
                refine lv_aload_n hx hb dX4_value_158 rfl (lv_at hl 3 rfl) ?_
                refine va_get (D := (dC, dI)) (ci := 3) (v := .int (nI fd)) (C := RX4) (T := TX4) (N := 22) hx hb hts hinX4 hown hK hP 0 rfl rfl 14 (by decide) hf_78 (fun _ h9 => h9) rfl dX4_value_159 ?_
                refine lv_aload_n hx hb dX4_value_162 rfl (lv_at hl 3 rfl) ?_
                refine va_get (D := (dC, dI)) (ci := 3) (v := .int (nI xa_9)) (C := RX4) (T := TX4) (N := 22) hx hb hts hinX4 hown hK hP 0 rfl rfl 12 (by decide) hf_72 (fun _ h9 => h9) rfl dX4_value_163 ?_
                refine hl_iast hx hb hK hP hD hS 3 0 rfl rfl (by omega) (by decide) dX4_value_166 (fun H locs hP hD hS => ?_)
                have hP : va_P (dC, dI) vwCl (wM cA m0 m1 m2 m3 m4 m5 m6 m7 m8 m9 cd row sz1 nd (va_up tg fd (row at_)) (va_up st fd xa_9) ln pa rd of ar dp xa_9 (nI 0) fd pl tx ou wr op on dn) H := hP
                have hD : va_D A (wM cA m0 m1 m2 m3 m4 m5 m6 m7 m8 m9 cd row sz1 nd (va_up tg fd (row at_)) (va_up st fd xa_9) ln pa rd of ar dp xa_9 (nI 0) fd pl tx ou wr op on dn) := hD
                have hB_18 := up_lt hst (k := fd) (x := xa_9) (by omega)
                refine lv_aload_n hx hb dX4_value_167 rfl (lv_at hl 3 rfl) ?_
                refine va_get (D := (dC, dI)) (ci := 3) (v := .ref m4) (C := RX4) (T := TX4) (N := 22) hx hb hts hinX4 hown hK hP 0 rfl rfl 6 (by decide) hf_19 (fun _ h9 => h9) rfl dX4_value_168 ?_
                refine lv_aload_n hx hb dX4_value_171 rfl (lv_at hl 3 rfl) ?_
                refine va_get (D := (dC, dI)) (ci := 3) (v := .int (nI fd)) (C := RX4) (T := TX4) (N := 22) hx hb hts hinX4 hown hK hP 0 rfl rfl 14 (by decide) hf_78 (fun _ h9 => h9) rfl dX4_value_172 ?_
                refine lv_iload_n hx hb dX4_value_175 rfl (lv_at hl 1 rfl) ?_
                refine hl_iast hx hb hK hP hD hS 4 0 rfl rfl (by omega) (by decide) dX4_value_176 (fun H locs hP hD hS => ?_)
                have hP : va_P (dC, dI) vwCl (wM cA m0 m1 m2 m3 m4 m5 m6 m7 m8 m9 cd row sz1 nd (va_up tg fd (row at_)) (va_up st fd xa_9) (va_up ln fd xn_9) pa rd of ar dp xa_9 (nI 0) fd pl tx ou wr op on dn) H := hP
                have hD : va_D A (wM cA m0 m1 m2 m3 m4 m5 m6 m7 m8 m9 cd row sz1 nd (va_up tg fd (row at_)) (va_up st fd xa_9) (va_up ln fd xn_9) pa rd of ar dp xa_9 (nI 0) fd pl tx ou wr op on dn) := hD
                have hB_19 := up_lt hln (k := fd) (x := xn_9) (by omega)
                refine lv_aload_n hx hb dX4_value_177 rfl (lv_at hl 3 rfl) ?_
                refine va_get (D := (dC, dI)) (ci := 3) (v := .ref m5) (C := RX4) (T := TX4) (N := 22) hx hb hts hinX4 hown hK hP 0 rfl rfl 7 (by decide) hf_22 (fun _ h9 => h9) rfl dX4_value_178 ?_
                refine lv_aload_n hx hb dX4_value_181 rfl (lv_at hl 3 rfl) ?_
                refine va_get (D := (dC, dI)) (ci := 3) (v := .int (nI fd)) (C := RX4) (T := TX4) (N := 22) hx hb hts hinX4 hown hK hP 0 rfl rfl 14 (by decide) hf_78 (fun _ h9 => h9) rfl dX4_value_182 ?_
                refine lv_aload_n hx hb dX4_value_185 rfl (lv_at hl 3 rfl) ?_
                refine va_get (D := (dC, dI)) (ci := 3) (v := .int (nI dp)) (C := RX4) (T := TX4) (N := 22) hx hb hts hinX4 hown hK hP 0 rfl rfl 11 (by decide) hf_61 (fun _ h9 => h9) rfl dX4_value_186 ?_
                refine hl_if_ne (tgt := 196) hx hb dX4_value_189 (by decide) (by omega) (fun c_20 => ?_) (fun c_20 => ?_)
                · refine lv_aload_n hx hb dX4_value_196 rfl (lv_at hl 3 rfl) ?_
                  refine va_get (D := (dC, dI)) (ci := 3) (v := .ref m6) (C := RX4) (T := TX4) (N := 22) hx hb hts hinX4 hown hK hP 0 rfl rfl 10 (by decide) hf_29 (fun _ h9 => h9) rfl dX4_value_197 ?_
                  refine lv_aload_n hx hb dX4_value_200 rfl (lv_at hl 3 rfl) ?_
                  refine va_get (D := (dC, dI)) (ci := 3) (v := .int (nI dp)) (C := RX4) (T := TX4) (N := 22) hx hb hts hinX4 hown hK hP 0 rfl rfl 11 (by decide) hf_61 (fun _ h9 => h9) rfl dX4_value_201 ?_
                  refine lv_iconst (v := nI 1) hx hb dX4_value_204 (by decide) ?_
                  refine hl_isub hx hb (by omega) dX4_value_205 ?_
                  refine hl_iald hx hb hK hP 6 0 rfl rfl (by omega) (by decide) dX4_value_206 ?_
                  have hv_21 := har (dp - 1)
                  refine hl_iastI hx hb hK hP hD hS 5 0 rfl rfl (by omega) (by decide) dX4_value_207 (fun H locs hP hD hS => ?_)
                  have hP : va_P (dC, dI) vwCl (wM cA m0 m1 m2 m3 m4 m5 m6 m7 m8 m9 cd row sz1 nd (va_up tg fd (row at_)) (va_up st fd xa_9) (va_up ln fd xn_9) (upd pa fd (nI (ar (dp - 1)))) rd of ar dp xa_9 (nI 0) fd pl tx ou wr op on dn) H := hP
                  have hD : va_D A (wM cA m0 m1 m2 m3 m4 m5 m6 m7 m8 m9 cd row sz1 nd (va_up tg fd (row at_)) (va_up st fd xa_9) (va_up ln fd xn_9) (upd pa fd (nI (ar (dp - 1)))) rd of ar dp xa_9 (nI 0) fd pl tx ou wr op on dn) := hD
                  refine lv_aload_n hx hb dX4_value_208 rfl (lv_at hl 3 rfl) ?_
                  refine lv_dup hx hb dX4_value_209 rfl ?_
                  refine va_get (D := (dC, dI)) (ci := 3) (v := .int (nI fd)) (C := RX4) (T := TX4) (N := 22) hx hb hts hinX4 hown hK hP 0 rfl rfl 14 (by decide) hf_78 (fun _ h9 => h9) rfl dX4_value_210 ?_
                  refine lv_iconst (v := nI 1) hx hb dX4_value_213 (by decide) ?_
                  refine hl_iadd hx hb dX4_value_214 ?_
                  refine va_put (D := (dC, dI)) (ci := 3) (v := .int (nI (fd + 1))) (ty := .int) (C := RX4) (T := TX4) (N := 22) hx hb hts hinX4 tyX4 tyX4_ok nmX4 hown hK hP hD hS 0 rfl rfl 14 (by decide) hf_78 (fun _ h9 => h9) rfl (by decide +kernel) rfl rfl (Nat.le_of_ble_eq_true rfl) dX4_value_215 (fun H locs hP hD hS => ?_)
                  have hP : va_P (dC, dI) vwCl (wM cA m0 m1 m2 m3 m4 m5 m6 m7 m8 m9 cd row sz1 nd (va_up tg fd (row at_)) (va_up st fd xa_9) (va_up ln fd xn_9) (upd pa fd (nI (ar (dp - 1)))) rd of ar dp xa_9 (nI 0) (fd + 1) pl tx ou wr op on dn) H := hP
                  have hD : va_D A (wM cA m0 m1 m2 m3 m4 m5 m6 m7 m8 m9 cd row sz1 nd (va_up tg fd (row at_)) (va_up st fd xa_9) (va_up ln fd xn_9) (upd pa fd (nI (ar (dp - 1)))) rd of ar dp xa_9 (nI 0) (fd + 1) pl tx ou wr op on dn) := hD
                  refine lv_aload_n hx hb dX4_value_218 rfl (lv_at hl 3 rfl) ?_
                  refine va_get (D := (dC, dI)) (ci := 3) (v := .ref m1) (C := RX4) (T := TX4) (N := 22) hx hb hts hinX4 hown hK hP 0 rfl rfl 1 (by decide) hf_7 (fun _ h9 => h9) rfl dX4_value_219 ?_
                  refine lv_iload_n hx hb dX4_value_222 rfl (lv_at hl 2 rfl) ?_
                  refine hl_iald hx hb hK hP 1 0 rfl rfl (by omega) (by decide) dX4_value_223 ?_
                  have hv_22 := hrow at_
                  refine lv_bipush (v := nI 48) hx hb dX4_value_224 (by decide) ?_
                  refine hl_icmp_ne (tgt := 255) hx hb dX4_value_226 (by decide) (by omega) (by omega) (fun c_23 => ?_) (fun c_23 => ?_)
                  · have h48 := c_23
                    refine lv_iconst (v := nI 0) hx hb dX4_value_255 (by decide) ?_
                    refine lv_istore (lv' := [(4, .int (nI 0)), (3, .int (nI ((st (ar (dp - 1))) + (ln (ar (dp - 1)))))), (2, .int (nI xn_9)), (1, .int (nI at_)), (0, .ref m0)]) hx hb dX4_value_256 hl (by decide) rfl (fun ls hl => ?_)
                    have lp_258 : ∀ (nf : Nat) (k : Nat) (tx1 : Nat → Nat), xn_9 - k < nf → (k ≤ xn_9) → (∀ j, j < k → tx1 j = row (xa_9 + j)) → (∀ j, tx1 j < 256) → ∀ (H : Heap) (locs : List Loc) (ls : Array Slot), va_P (dC, dI) vwCl (wM cA m0 m1 m2 m3 m4 m5 m6 m7 m8 m9 cd row sz1 nd (va_up tg fd (row at_)) (va_up st fd xa_9) (va_up ln fd xn_9) (upd pa fd (nI (ar (dp - 1)))) rd of ar dp xa_9 (nI 0) (fd + 1) pl tx1 ou wr op on dn) H → va_D A (wM cA m0 m1 m2 m3 m4 m5 m6 m7 m8 m9 cd row sz1 nd (va_up tg fd (row at_)) (va_up st fd xa_9) (va_up ln fd xn_9) (upd pa fd (nI (ar (dp - 1)))) rd of ar dp xa_9 (nI 0) (fd + 1) pl tx1 ou wr op on dn) → va_S A s.heap H locs → lv_has ls 5 [(4, .int (nI k)), (3, .int (nI ((st (ar (dp - 1))) + (ln (ar (dp - 1)))))), (2, .int (nI xn_9)), (1, .int (nI at_)), (0, .ref m0)] → W p l e (headSpec wsX4_value ({ frames := 3, cells := 0, slots := 0, locals := 71 } : Room)).room s m ([.ref m0] : List Value).toArray below meth c H locs 0 0 (MQ below (qX4_value dC dI cA A m0 m1 m2 m3 m4 m5 m6 m7 m8 m9 cd row sz1 nd tg st ln pa rd of ar dp at_ fd pl tx ou wr op on dn) ([.ref m0] : List Value).toArray s 0 0 A) (F0 m 258 ls []) := by
                      intro nf
                      induction nf with
                      | zero =>
                        intro k tx1 hm
                        exact absurd hm (Nat.not_lt_zero _)
                      | succ nf ih_258 =>
                        intro k tx1 hm hk hc1 hb1 H locs ls hP hD hS hl
                        refine lv_iload hx hb dX4_value_258 (lv_at hl 0 rfl) ?_
                        refine lv_iload_n hx hb dX4_value_260 rfl (lv_at hl 2 rfl) ?_
                        refine hl_icmp_ge (tgt := 289) hx hb dX4_value_261 (by decide) (by omega) (by omega) (fun c_25 => ?_) (fun c_25 => ?_)
                        · have hcon : okC (row at_) tx1 0 xn_9 = okC (row at_) row xa_9 xn_9 := okC_eq (fun j hj => by rw [Nat.zero_add]; exact hc1 j (by omega))
                          refine lv_aload_n hx hb dX4_value_289 rfl (lv_at hl 4 rfl) ?_
                          refine lv_aload_n hx hb dX4_value_290 rfl (lv_at hl 4 rfl) ?_
                          refine va_get (D := (dC, dI)) (ci := 3) (v := .ref m1) (C := RX4) (T := TX4) (N := 22) hx hb hts hinX4 hown hK hP 0 rfl rfl 1 (by decide) hf_7 (fun _ h9 => h9) rfl dX4_value_291 ?_
                          refine lv_iload_n hx hb dX4_value_294 rfl (lv_at hl 3 rfl) ?_
                          refine hl_iald hx hb hK hP 1 0 rfl rfl (by omega) (by decide) dX4_value_295 ?_
                          have hv_26 := hrow at_
                          refine lv_iload_n hx hb dX4_value_296 rfl (lv_at hl 2 rfl) ?_
                          refine cl_Vi (As := [.int (nI (row at_)), .int (nI xn_9)]) (rest := []) (wr := []) ⟨hx, hb, hml, hown, hts⟩ (k_X4_isRight l dC dI cA m0 m1 m2 m3 m4 m5 m6 m7 m8 m9 cd row sz1 nd (va_up tg fd (row at_)) (va_up st fd xa_9) (va_up ln fd xn_9) (upd pa fd (nI (ar (dp - 1)))) rd of ar dp xa_9 (nI 0) (fd + 1) pl tx1 ou wr op on dn (row at_) xn_9 _ hb1 (by omega) (by omega)) (cwV 2 hts gX4_value_X4_isRight rfl rfl rfl (by decide +kernel) ⟨Nat.le_of_ble_eq_true rfl, Nat.le_of_ble_eq_true rfl⟩) hK hP hD hS hA [0, 1, 2, 3, 4, 5, 6, 7, 8, 9] [] rfl rfl (by decide) (by decide) (by decide) (ci := 3) (q0 := 0) rfl rfl rfl rfl hl.1 rfl (Nat.le_of_ble_eq_true rfl) dX4_value_297 ⟨Nat.le_of_ble_eq_true rfl, Nat.le_of_ble_eq_true rfl⟩ (fun r_27 u_27 H locs hw_27 hP hD hS => ?_)
                          have hP : va_P (dC, dI) vwCl (wM cA m0 m1 m2 m3 m4 m5 m6 m7 m8 m9 cd row sz1 nd (va_up tg fd (row at_)) (va_up st fd xa_9) (va_up ln fd xn_9) (upd pa fd (nI (ar (dp - 1)))) rd of ar dp xa_9 (nI 0) (fd + 1) pl tx1 ou wr op on dn) H := hP
                          have hD : va_D A (wM cA m0 m1 m2 m3 m4 m5 m6 m7 m8 m9 cd row sz1 nd (va_up tg fd (row at_)) (va_up st fd xa_9) (va_up ln fd xn_9) (upd pa fd (nI (ar (dp - 1)))) rd of ar dp xa_9 (nI 0) (fd + 1) pl tx1 ou wr op on dn) := hD
                          have hw_27 : r_27 = if okC (row at_) tx1 0 xn_9 = true then 1 else 0 := hw_27
                          have hw_27 := hw_27.symm
                          subst hw_27
                          refine hl_ifb_ne (tgt := 310) hx hb dX4_value_300 (by decide) (fun c_28 => ?_) (fun c_28 => ?_)
                          · refine lv_aload_n hx hb dX4_value_310 rfl (lv_at hl 4 rfl) ?_
                            refine lv_dup hx hb dX4_value_311 rfl ?_
                            refine va_get (D := (dC, dI)) (ci := 3) (v := .int (nI xa_9)) (C := RX4) (T := TX4) (N := 22) hx hb hts hinX4 hown hK hP 0 rfl rfl 12 (by decide) hf_72 (fun _ h9 => h9) rfl dX4_value_312 ?_
                            refine lv_iload_n hx hb dX4_value_315 rfl (lv_at hl 2 rfl) ?_
                            refine hl_iadd hx hb dX4_value_316 ?_
                            refine va_put (D := (dC, dI)) (ci := 3) (v := .int (nI (xa_9 + xn_9))) (ty := .int) (C := RX4) (T := TX4) (N := 22) hx hb hts hinX4 tyX4 tyX4_ok nmX4 hown hK hP hD hS 0 rfl rfl 12 (by decide) hf_72 (fun _ h9 => h9) rfl (by decide +kernel) rfl rfl (Nat.le_of_ble_eq_true rfl) dX4_value_317 (fun H locs hP hD hS => ?_)
                            have hP : va_P (dC, dI) vwCl (wM cA m0 m1 m2 m3 m4 m5 m6 m7 m8 m9 cd row sz1 nd (va_up tg fd (row at_)) (va_up st fd xa_9) (va_up ln fd xn_9) (upd pa fd (nI (ar (dp - 1)))) rd of ar dp (xa_9 + xn_9) (nI 0) (fd + 1) pl tx1 ou wr op on dn) H := hP
                            have hD : va_D A (wM cA m0 m1 m2 m3 m4 m5 m6 m7 m8 m9 cd row sz1 nd (va_up tg fd (row at_)) (va_up st fd xa_9) (va_up ln fd xn_9) (upd pa fd (nI (ar (dp - 1)))) rd of ar dp (xa_9 + xn_9) (nI 0) (fd + 1) pl tx1 ou wr op on dn) := hD
                            have hP9 : va_P (dC, dI) vwCl (vX4_value cA m0 m1 m2 m3 m4 m5 m6 m7 m8 m9 cd row sz1 nd tg st ln pa rd of ar dp at_ fd pl tx ou wr op on dn (nI 0, pl, fd + 1, va_up tg fd (row at_), va_up st fd xa_9, va_up ln fd xn_9, upd pa fd (nI (ar (dp - 1))), ar, dp, xa_9 + xn_9, tx1, xn_9, xa_9)) _ := hP
                            have hD9 : va_D A (vX4_value cA m0 m1 m2 m3 m4 m5 m6 m7 m8 m9 cd row sz1 nd tg st ln pa rd of ar dp at_ fd pl tx ou wr op on dn (nI 0, pl, fd + 1, va_up tg fd (row at_), va_up st fd xa_9, va_up ln fd xn_9, upd pa fd (nI (ar (dp - 1))), ar, dp, xa_9 + xn_9, tx1, xn_9, xa_9)) := hD
                            have hq9 : pX4_value m0 m1 m2 m3 m4 m5 m6 m7 m8 m9 cd row sz1 nd tg st ln pa rd of ar dp at_ fd pl tx ou wr op on dn (nI 0, pl, fd + 1, va_up tg fd (row at_), va_up st fd xa_9, va_up ln fd xn_9, upd pa fd (nI (ar (dp - 1))), ar, dp, xa_9 + xn_9, tx1, xn_9, xa_9) := ⟨Or.inl ⟨by unfold valS; rw [hidn]; dsimp only; rw [hle_9]; dsimp only; unfold conS; rw [if_neg (by omega), if_neg (fun h => h (by rw [← hcon]; assumption))], rfl, rfl, rfl, rfl, rfl, rfl, (by first | (exfalso; omega) | (unfold parI; rw [if_pos (by assumption)]) | (unfold parI; rw [if_neg (by assumption)])), (by unfold nxA; rw [if_neg h48]), (by unfold nxL; rw [if_neg h48]), (by unfold nxP; rw [if_neg h48])⟩, up_lt htg (hrow _), up_lt hst (by omega), up_lt hln (by omega), har, hb1, by omega, by omega, by omega⟩
                            exact W.vret hx hb hr (fun t ht hW => ⟨⟨(nI 0, pl, fd + 1, va_up tg fd (row at_), va_up st fd xa_9, va_up ln fd xn_9, upd pa fd (nI (ar (dp - 1))), ar, dp, xa_9 + xn_9, tx1, xn_9, xa_9), rfl, hq9, by rw [ht]; exact hP9, va_K.moved hW.alike hK, hD9⟩, hS.F ht⟩) hS.2.2 dX4_value_320
                          · refine lv_aload_n hx hb dX4_value_303 rfl (lv_at hl 4 rfl) ?_
                            refine lv_bipush (v := (-5)) hx hb dX4_value_304 (by decide) ?_
                            refine lv_iload_n hx hb dX4_value_306 rfl (lv_at hl 3 rfl) ?_
                            refine cl_Vv (As := [.int (-5), .int (nI at_)]) (rest := []) (wr := []) ⟨hx, hb, hml, hown, hts⟩ (k_X4_fail l dC dI cA m0 m1 m2 m3 m4 m5 m6 m7 m8 m9 cd row sz1 nd (va_up tg fd (row at_)) (va_up st fd xa_9) (va_up ln fd xn_9) (upd pa fd (nI (ar (dp - 1)))) rd of ar dp xa_9 (nI 0) (fd + 1) pl tx1 ou wr op on dn (-5) (nI at_) _ ) (cwV 2 hts gX4_value_X4_fail rfl rfl rfl (by decide +kernel) ⟨Nat.le_of_ble_eq_true rfl, Nat.le_of_ble_eq_true rfl⟩) hK hP hD hS hA [0, 1, 2, 3, 4, 5, 6, 7, 8, 9] [] rfl rfl (by decide) (by decide) (by decide) (ci := 3) (q0 := 0) rfl rfl rfl rfl hl.1 rfl (Nat.le_of_ble_eq_true rfl) dX4_value_307 ⟨Nat.le_of_ble_eq_true rfl, Nat.le_of_ble_eq_true rfl⟩ (fun u_29 H locs hw_29 hP hD hS => ?_)
                            obtain ⟨rs2_29, pl2_29⟩ := u_29
                            have hP : va_P (dC, dI) vwCl (wM cA m0 m1 m2 m3 m4 m5 m6 m7 m8 m9 cd row sz1 nd (va_up tg fd (row at_)) (va_up st fd xa_9) (va_up ln fd xn_9) (upd pa fd (nI (ar (dp - 1)))) rd of ar dp xa_9 rs2_29 (fd + 1) pl2_29 tx1 ou wr op on dn) H := hP
                            have hD : va_D A (wM cA m0 m1 m2 m3 m4 m5 m6 m7 m8 m9 cd row sz1 nd (va_up tg fd (row at_)) (va_up st fd xa_9) (va_up ln fd xn_9) (upd pa fd (nI (ar (dp - 1)))) rd of ar dp xa_9 rs2_29 (fd + 1) pl2_29 tx1 ou wr op on dn) := hD
                            have hw_29 : rs2_29 = (-5) ∧ pl2_29 = (nI at_) := hw_29
                            obtain ⟨e0_29, e1_29⟩ := hw_29
                            have e0_29 := e0_29.symm
                            subst e0_29
                            have e1_29 := e1_29.symm
                            subst e1_29
                            refine lv_aload_n hx hb dX4_value_310 rfl (lv_at hl 4 rfl) ?_
                            refine lv_dup hx hb dX4_value_311 rfl ?_
                            refine va_get (D := (dC, dI)) (ci := 3) (v := .int (nI xa_9)) (C := RX4) (T := TX4) (N := 22) hx hb hts hinX4 hown hK hP 0 rfl rfl 12 (by decide) hf_72 (fun _ h9 => h9) rfl dX4_value_312 ?_
                            refine lv_iload_n hx hb dX4_value_315 rfl (lv_at hl 2 rfl) ?_
                            refine hl_iadd hx hb dX4_value_316 ?_
                            refine va_put (D := (dC, dI)) (ci := 3) (v := .int (nI (xa_9 + xn_9))) (ty := .int) (C := RX4) (T := TX4) (N := 22) hx hb hts hinX4 tyX4 tyX4_ok nmX4 hown hK hP hD hS 0 rfl rfl 12 (by decide) hf_72 (fun _ h9 => h9) rfl (by decide +kernel) rfl rfl (Nat.le_of_ble_eq_true rfl) dX4_value_317 (fun H locs hP hD hS => ?_)
                            have hP : va_P (dC, dI) vwCl (wM cA m0 m1 m2 m3 m4 m5 m6 m7 m8 m9 cd row sz1 nd (va_up tg fd (row at_)) (va_up st fd xa_9) (va_up ln fd xn_9) (upd pa fd (nI (ar (dp - 1)))) rd of ar dp (xa_9 + xn_9) (-5) (fd + 1) (nI at_) tx1 ou wr op on dn) H := hP
                            have hD : va_D A (wM cA m0 m1 m2 m3 m4 m5 m6 m7 m8 m9 cd row sz1 nd (va_up tg fd (row at_)) (va_up st fd xa_9) (va_up ln fd xn_9) (upd pa fd (nI (ar (dp - 1)))) rd of ar dp (xa_9 + xn_9) (-5) (fd + 1) (nI at_) tx1 ou wr op on dn) := hD
                            have hP9 : va_P (dC, dI) vwCl (vX4_value cA m0 m1 m2 m3 m4 m5 m6 m7 m8 m9 cd row sz1 nd tg st ln pa rd of ar dp at_ fd pl tx ou wr op on dn ((-5), (nI at_), fd + 1, va_up tg fd (row at_), va_up st fd xa_9, va_up ln fd xn_9, upd pa fd (nI (ar (dp - 1))), ar, dp, xa_9 + xn_9, tx1, 0, 0)) _ := hP
                            have hD9 : va_D A (vX4_value cA m0 m1 m2 m3 m4 m5 m6 m7 m8 m9 cd row sz1 nd tg st ln pa rd of ar dp at_ fd pl tx ou wr op on dn ((-5), (nI at_), fd + 1, va_up tg fd (row at_), va_up st fd xa_9, va_up ln fd xn_9, upd pa fd (nI (ar (dp - 1))), ar, dp, xa_9 + xn_9, tx1, 0, 0)) := hD
                            have hq9 : pX4_value m0 m1 m2 m3 m4 m5 m6 m7 m8 m9 cd row sz1 nd tg st ln pa rd of ar dp at_ fd pl tx ou wr op on dn ((-5), (nI at_), fd + 1, va_up tg fd (row at_), va_up st fd xa_9, va_up ln fd xn_9, upd pa fd (nI (ar (dp - 1))), ar, dp, xa_9 + xn_9, tx1, 0, 0) := ⟨Or.inr ⟨by unfold valS; rw [hidn]; dsimp only; rw [hle_9]; dsimp only; unfold conS; rw [if_neg (by omega), if_pos (by rw [← hcon]; assumption)], by decide⟩, up_lt htg (hrow _), up_lt hst (by omega), up_lt hln (by omega), har, hb1, by omega, by omega, by omega⟩
                            exact W.vret hx hb hr (fun t ht hW => ⟨⟨((-5), (nI at_), fd + 1, va_up tg fd (row at_), va_up st fd xa_9, va_up ln fd xn_9, upd pa fd (nI (ar (dp - 1))), ar, dp, xa_9 + xn_9, tx1, 0, 0), rfl, hq9, by rw [ht]; exact hP9, va_K.moved hW.alike hK, hD9⟩, hS.F ht⟩) hS.2.2 dX4_value_320
                        · refine lv_aload_n hx hb dX4_value_264 rfl (lv_at hl 4 rfl) ?_
                          refine va_get (D := (dC, dI)) (ci := 3) (v := .ref m7) (C := RX4) (T := TX4) (N := 22) hx hb hts hinX4 hown hK hP 0 rfl rfl 16 (by decide) hf_32 (fun _ h9 => h9) rfl dX4_value_265 ?_
                          refine lv_iload hx hb dX4_value_268 (lv_at hl 0 rfl) ?_
                          refine lv_aload_n hx hb dX4_value_270 rfl (lv_at hl 4 rfl) ?_
                          refine va_get (D := (dC, dI)) (ci := 3) (v := .ref m1) (C := RX4) (T := TX4) (N := 22) hx hb hts hinX4 hown hK hP 0 rfl rfl 1 (by decide) hf_7 (fun _ h9 => h9) rfl dX4_value_271 ?_
                          refine lv_aload_n hx hb dX4_value_274 rfl (lv_at hl 4 rfl) ?_
                          refine va_get (D := (dC, dI)) (ci := 3) (v := .int (nI xa_9)) (C := RX4) (T := TX4) (N := 22) hx hb hts hinX4 hown hK hP 0 rfl rfl 12 (by decide) hf_72 (fun _ h9 => h9) rfl dX4_value_275 ?_
                          refine lv_iload hx hb dX4_value_278 (lv_at hl 0 rfl) ?_
                          refine hl_iadd hx hb dX4_value_280 ?_
                          refine hl_iald hx hb hK hP 1 0 rfl rfl (by omega) (by decide) dX4_value_281 ?_
                          have hv_30 := hrow (xa_9 + k)
                          refine hl_iast hx hb hK hP hD hS 7 0 rfl rfl (by omega) (by decide) dX4_value_282 (fun H locs hP hD hS => ?_)
                          have hP : va_P (dC, dI) vwCl (wM cA m0 m1 m2 m3 m4 m5 m6 m7 m8 m9 cd row sz1 nd (va_up tg fd (row at_)) (va_up st fd xa_9) (va_up ln fd xn_9) (upd pa fd (nI (ar (dp - 1)))) rd of ar dp xa_9 (nI 0) (fd + 1) pl (va_up tx1 k (row (xa_9 + k))) ou wr op on dn) H := hP
                          have hD : va_D A (wM cA m0 m1 m2 m3 m4 m5 m6 m7 m8 m9 cd row sz1 nd (va_up tg fd (row at_)) (va_up st fd xa_9) (va_up ln fd xn_9) (upd pa fd (nI (ar (dp - 1)))) rd of ar dp xa_9 (nI 0) (fd + 1) pl (va_up tx1 k (row (xa_9 + k))) ou wr op on dn) := hD
                          refine lv_iinc (v := (nI (k + 1))) (lv' := [(4, .int (nI (k + 1))), (3, .int (nI ((st (ar (dp - 1))) + (ln (ar (dp - 1)))))), (2, .int (nI xn_9)), (1, .int (nI at_)), (0, .ref m0)]) hx hb dX4_value_283 hl (k := 0) rfl (nI_inc k 1) (by decide) rfl (fun ls hl => ?_)
                          refine lv_goto (tgt := 258) hx hb dX4_value_286 (by decide) ?_
                          exact ih_258 (k + 1) (va_up tx1 k (row (xa_9 + k))) (by omega) (by omega) (fun j hj => by by_cases e : j = k; rw [e, up_eq]; rw [up_ne _ _ e]; exact hc1 j (by omega)) (up_lt hb1 (hrow _)) _ _ _ hP hD hS (lv_sub hl [0, 1, 2, 3, 4] rfl)
                    exact lp_258 (xn_9 - 0 + 1) 0 tx (Nat.lt_succ_self _) (by omega) (fun j hj => absurd hj (Nat.not_lt_zero j)) htx _ _ _ hP hD hS (lv_sub hl [0, 1, 2, 3, 4] rfl)
                  · have h48 := c_23
                    refine lv_aload_n hx hb dX4_value_229 rfl (lv_at hl 3 rfl) ?_
                    refine va_get (D := (dC, dI)) (ci := 3) (v := .ref m6) (C := RX4) (T := TX4) (N := 22) hx hb hts hinX4 hown hK hP 0 rfl rfl 10 (by decide) hf_29 (fun _ h9 => h9) rfl dX4_value_230 ?_
                    refine lv_aload_n hx hb dX4_value_233 rfl (lv_at hl 3 rfl) ?_
                    refine va_get (D := (dC, dI)) (ci := 3) (v := .int (nI dp)) (C := RX4) (T := TX4) (N := 22) hx hb hts hinX4 hown hK hP 0 rfl rfl 11 (by decide) hf_61 (fun _ h9 => h9) rfl dX4_value_234 ?_
                    refine lv_aload_n hx hb dX4_value_237 rfl (lv_at hl 3 rfl) ?_
                    refine va_get (D := (dC, dI)) (ci := 3) (v := .int (nI (fd + 1))) (C := RX4) (T := TX4) (N := 22) hx hb hts hinX4 hown hK hP 0 rfl rfl 14 (by decide) hf_78 (fun _ h9 => h9) rfl dX4_value_238 ?_
                    refine lv_iconst (v := nI 1) hx hb dX4_value_241 (by decide) ?_
                    refine hl_isub hx hb (by omega) dX4_value_242 ?_
                    refine hl_top (show nI (fd + 1 - 1) = nI fd from rfl) ?_
                    refine hl_iast hx hb hK hP hD hS 6 0 rfl rfl (by omega) (by decide) dX4_value_243 (fun H locs hP hD hS => ?_)
                    have hP : va_P (dC, dI) vwCl (wM cA m0 m1 m2 m3 m4 m5 m6 m7 m8 m9 cd row sz1 nd (va_up tg fd (row at_)) (va_up st fd xa_9) (va_up ln fd xn_9) (upd pa fd (nI (ar (dp - 1)))) rd of (va_up ar dp fd) dp xa_9 (nI 0) (fd + 1) pl tx ou wr op on dn) H := hP
                    have hD : va_D A (wM cA m0 m1 m2 m3 m4 m5 m6 m7 m8 m9 cd row sz1 nd (va_up tg fd (row at_)) (va_up st fd xa_9) (va_up ln fd xn_9) (upd pa fd (nI (ar (dp - 1)))) rd of (va_up ar dp fd) dp xa_9 (nI 0) (fd + 1) pl tx ou wr op on dn) := hD
                    have hB_31 := up_lt har (k := dp) (x := fd) (by omega)
                    refine lv_aload_n hx hb dX4_value_244 rfl (lv_at hl 3 rfl) ?_
                    refine lv_dup hx hb dX4_value_245 rfl ?_
                    refine va_get (D := (dC, dI)) (ci := 3) (v := .int (nI dp)) (C := RX4) (T := TX4) (N := 22) hx hb hts hinX4 hown hK hP 0 rfl rfl 11 (by decide) hf_61 (fun _ h9 => h9) rfl dX4_value_246 ?_
                    refine lv_iconst (v := nI 1) hx hb dX4_value_249 (by decide) ?_
                    refine hl_iadd hx hb dX4_value_250 ?_
                    refine va_put (D := (dC, dI)) (ci := 3) (v := .int (nI (dp + 1))) (ty := .int) (C := RX4) (T := TX4) (N := 22) hx hb hts hinX4 tyX4 tyX4_ok nmX4 hown hK hP hD hS 0 rfl rfl 11 (by decide) hf_61 (fun _ h9 => h9) rfl (by decide +kernel) rfl rfl (Nat.le_of_ble_eq_true rfl) dX4_value_251 (fun H locs hP hD hS => ?_)
                    have hP : va_P (dC, dI) vwCl (wM cA m0 m1 m2 m3 m4 m5 m6 m7 m8 m9 cd row sz1 nd (va_up tg fd (row at_)) (va_up st fd xa_9) (va_up ln fd xn_9) (upd pa fd (nI (ar (dp - 1)))) rd of (va_up ar dp fd) (dp + 1) xa_9 (nI 0) (fd + 1) pl tx ou wr op on dn) H := hP
                    have hD : va_D A (wM cA m0 m1 m2 m3 m4 m5 m6 m7 m8 m9 cd row sz1 nd (va_up tg fd (row at_)) (va_up st fd xa_9) (va_up ln fd xn_9) (upd pa fd (nI (ar (dp - 1)))) rd of (va_up ar dp fd) (dp + 1) xa_9 (nI 0) (fd + 1) pl tx ou wr op on dn) := hD
                    have hP9 : va_P (dC, dI) vwCl (vX4_value cA m0 m1 m2 m3 m4 m5 m6 m7 m8 m9 cd row sz1 nd tg st ln pa rd of ar dp at_ fd pl tx ou wr op on dn (nI 0, pl, fd + 1, va_up tg fd (row at_), va_up st fd xa_9, va_up ln fd xn_9, upd pa fd (nI (ar (dp - 1))), va_up ar dp fd, dp + 1, xa_9, tx, xn_9, xa_9)) _ := hP
                    have hD9 : va_D A (vX4_value cA m0 m1 m2 m3 m4 m5 m6 m7 m8 m9 cd row sz1 nd tg st ln pa rd of ar dp at_ fd pl tx ou wr op on dn (nI 0, pl, fd + 1, va_up tg fd (row at_), va_up st fd xa_9, va_up ln fd xn_9, upd pa fd (nI (ar (dp - 1))), va_up ar dp fd, dp + 1, xa_9, tx, xn_9, xa_9)) := hD
                    have hq9 : pX4_value m0 m1 m2 m3 m4 m5 m6 m7 m8 m9 cd row sz1 nd tg st ln pa rd of ar dp at_ fd pl tx ou wr op on dn (nI 0, pl, fd + 1, va_up tg fd (row at_), va_up st fd xa_9, va_up ln fd xn_9, upd pa fd (nI (ar (dp - 1))), va_up ar dp fd, dp + 1, xa_9, tx, xn_9, xa_9) := ⟨Or.inl ⟨by unfold valS; rw [hidn]; dsimp only; rw [hle_9]; dsimp only; unfold conS; rw [if_neg (by omega), if_neg (fun h => h (by unfold okC; simp [h48]))], rfl, rfl, rfl, rfl, rfl, rfl, (by first | (exfalso; omega) | (unfold parI; rw [if_pos (by assumption)]) | (unfold parI; rw [if_neg (by assumption)])), (by unfold nxA; rw [if_pos h48]), (by unfold nxL; rw [if_pos h48]), (by unfold nxP; rw [if_pos h48])⟩, up_lt htg (hrow _), up_lt hst (by omega), up_lt hln (by omega), up_lt har (by omega), htx, by omega, by omega, by omega⟩
                    exact W.vret hx hb hr (fun t ht hW => ⟨⟨(nI 0, pl, fd + 1, va_up tg fd (row at_), va_up st fd xa_9, va_up ln fd xn_9, upd pa fd (nI (ar (dp - 1))), va_up ar dp fd, dp + 1, xa_9, tx, xn_9, xa_9), rfl, hq9, by rw [ht]; exact hP9, va_K.moved hW.alike hK, hD9⟩, hS.F ht⟩) hS.2.2 dX4_value_254
                · refine lv_iconst (v := (-1)) hx hb dX4_value_192 (by decide) ?_
                  refine lv_goto (tgt := 207) hx hb dX4_value_193 (by decide) ?_
                  refine hl_iastI hx hb hK hP hD hS 5 0 rfl rfl (by omega) (by decide) dX4_value_207 (fun H locs hP hD hS => ?_)
                  have hP : va_P (dC, dI) vwCl (wM cA m0 m1 m2 m3 m4 m5 m6 m7 m8 m9 cd row sz1 nd (va_up tg fd (row at_)) (va_up st fd xa_9) (va_up ln fd xn_9) (upd pa fd (-1)) rd of ar dp xa_9 (nI 0) fd pl tx ou wr op on dn) H := hP
                  have hD : va_D A (wM cA m0 m1 m2 m3 m4 m5 m6 m7 m8 m9 cd row sz1 nd (va_up tg fd (row at_)) (va_up st fd xa_9) (va_up ln fd xn_9) (upd pa fd (-1)) rd of ar dp xa_9 (nI 0) fd pl tx ou wr op on dn) := hD
                  refine lv_aload_n hx hb dX4_value_208 rfl (lv_at hl 3 rfl) ?_
                  refine lv_dup hx hb dX4_value_209 rfl ?_
                  refine va_get (D := (dC, dI)) (ci := 3) (v := .int (nI fd)) (C := RX4) (T := TX4) (N := 22) hx hb hts hinX4 hown hK hP 0 rfl rfl 14 (by decide) hf_78 (fun _ h9 => h9) rfl dX4_value_210 ?_
                  refine lv_iconst (v := nI 1) hx hb dX4_value_213 (by decide) ?_
                  refine hl_iadd hx hb dX4_value_214 ?_
                  refine va_put (D := (dC, dI)) (ci := 3) (v := .int (nI (fd + 1))) (ty := .int) (C := RX4) (T := TX4) (N := 22) hx hb hts hinX4 tyX4 tyX4_ok nmX4 hown hK hP hD hS 0 rfl rfl 14 (by decide) hf_78 (fun _ h9 => h9) rfl (by decide +kernel) rfl rfl (Nat.le_of_ble_eq_true rfl) dX4_value_215 (fun H locs hP hD hS => ?_)
                  have hP : va_P (dC, dI) vwCl (wM cA m0 m1 m2 m3 m4 m5 m6 m7 m8 m9 cd row sz1 nd (va_up tg fd (row at_)) (va_up st fd xa_9) (va_up ln fd xn_9) (upd pa fd (-1)) rd of ar dp xa_9 (nI 0) (fd + 1) pl tx ou wr op on dn) H := hP
                  have hD : va_D A (wM cA m0 m1 m2 m3 m4 m5 m6 m7 m8 m9 cd row sz1 nd (va_up tg fd (row at_)) (va_up st fd xa_9) (va_up ln fd xn_9) (upd pa fd (-1)) rd of ar dp xa_9 (nI 0) (fd + 1) pl tx ou wr op on dn) := hD
                  refine lv_aload_n hx hb dX4_value_218 rfl (lv_at hl 3 rfl) ?_
                  refine va_get (D := (dC, dI)) (ci := 3) (v := .ref m1) (C := RX4) (T := TX4) (N := 22) hx hb hts hinX4 hown hK hP 0 rfl rfl 1 (by decide) hf_7 (fun _ h9 => h9) rfl dX4_value_219 ?_
                  refine lv_iload_n hx hb dX4_value_222 rfl (lv_at hl 2 rfl) ?_
                  refine hl_iald hx hb hK hP 1 0 rfl rfl (by omega) (by decide) dX4_value_223 ?_
                  have hv_32 := hrow at_
                  refine lv_bipush (v := nI 48) hx hb dX4_value_224 (by decide) ?_
                  refine hl_icmp_ne (tgt := 255) hx hb dX4_value_226 (by decide) (by omega) (by omega) (fun c_33 => ?_) (fun c_33 => ?_)
                  · have h48 := c_33
                    refine lv_iconst (v := nI 0) hx hb dX4_value_255 (by decide) ?_
                    refine lv_istore (lv' := [(4, .int (nI 0)), (3, .int (nI ((st (ar (dp - 1))) + (ln (ar (dp - 1)))))), (2, .int (nI xn_9)), (1, .int (nI at_)), (0, .ref m0)]) hx hb dX4_value_256 hl (by decide) rfl (fun ls hl => ?_)
                    have lp_258 : ∀ (nf : Nat) (k : Nat) (tx1 : Nat → Nat), xn_9 - k < nf → (k ≤ xn_9) → (∀ j, j < k → tx1 j = row (xa_9 + j)) → (∀ j, tx1 j < 256) → ∀ (H : Heap) (locs : List Loc) (ls : Array Slot), va_P (dC, dI) vwCl (wM cA m0 m1 m2 m3 m4 m5 m6 m7 m8 m9 cd row sz1 nd (va_up tg fd (row at_)) (va_up st fd xa_9) (va_up ln fd xn_9) (upd pa fd (-1)) rd of ar dp xa_9 (nI 0) (fd + 1) pl tx1 ou wr op on dn) H → va_D A (wM cA m0 m1 m2 m3 m4 m5 m6 m7 m8 m9 cd row sz1 nd (va_up tg fd (row at_)) (va_up st fd xa_9) (va_up ln fd xn_9) (upd pa fd (-1)) rd of ar dp xa_9 (nI 0) (fd + 1) pl tx1 ou wr op on dn) → va_S A s.heap H locs → lv_has ls 5 [(4, .int (nI k)), (3, .int (nI ((st (ar (dp - 1))) + (ln (ar (dp - 1)))))), (2, .int (nI xn_9)), (1, .int (nI at_)), (0, .ref m0)] → W p l e (headSpec wsX4_value ({ frames := 3, cells := 0, slots := 0, locals := 71 } : Room)).room s m ([.ref m0] : List Value).toArray below meth c H locs 0 0 (MQ below (qX4_value dC dI cA A m0 m1 m2 m3 m4 m5 m6 m7 m8 m9 cd row sz1 nd tg st ln pa rd of ar dp at_ fd pl tx ou wr op on dn) ([.ref m0] : List Value).toArray s 0 0 A) (F0 m 258 ls []) := by
                      intro nf
                      induction nf with
                      | zero =>
                        intro k tx1 hm
                        exact absurd hm (Nat.not_lt_zero _)
                      | succ nf ih_258 =>
                        intro k tx1 hm hk hc1 hb1 H locs ls hP hD hS hl
                        refine lv_iload hx hb dX4_value_258 (lv_at hl 0 rfl) ?_
                        refine lv_iload_n hx hb dX4_value_260 rfl (lv_at hl 2 rfl) ?_
                        refine hl_icmp_ge (tgt := 289) hx hb dX4_value_261 (by decide) (by omega) (by omega) (fun c_35 => ?_) (fun c_35 => ?_)
                        · have hcon : okC (row at_) tx1 0 xn_9 = okC (row at_) row xa_9 xn_9 := okC_eq (fun j hj => by rw [Nat.zero_add]; exact hc1 j (by omega))
                          refine lv_aload_n hx hb dX4_value_289 rfl (lv_at hl 4 rfl) ?_
                          refine lv_aload_n hx hb dX4_value_290 rfl (lv_at hl 4 rfl) ?_
                          refine va_get (D := (dC, dI)) (ci := 3) (v := .ref m1) (C := RX4) (T := TX4) (N := 22) hx hb hts hinX4 hown hK hP 0 rfl rfl 1 (by decide) hf_7 (fun _ h9 => h9) rfl dX4_value_291 ?_
                          refine lv_iload_n hx hb dX4_value_294 rfl (lv_at hl 3 rfl) ?_
                          refine hl_iald hx hb hK hP 1 0 rfl rfl (by omega) (by decide) dX4_value_295 ?_
                          have hv_36 := hrow at_
                          refine lv_iload_n hx hb dX4_value_296 rfl (lv_at hl 2 rfl) ?_
                          refine cl_Vi (As := [.int (nI (row at_)), .int (nI xn_9)]) (rest := []) (wr := []) ⟨hx, hb, hml, hown, hts⟩ (k_X4_isRight l dC dI cA m0 m1 m2 m3 m4 m5 m6 m7 m8 m9 cd row sz1 nd (va_up tg fd (row at_)) (va_up st fd xa_9) (va_up ln fd xn_9) (upd pa fd (-1)) rd of ar dp xa_9 (nI 0) (fd + 1) pl tx1 ou wr op on dn (row at_) xn_9 _ hb1 (by omega) (by omega)) (cwV 2 hts gX4_value_X4_isRight rfl rfl rfl (by decide +kernel) ⟨Nat.le_of_ble_eq_true rfl, Nat.le_of_ble_eq_true rfl⟩) hK hP hD hS hA [0, 1, 2, 3, 4, 5, 6, 7, 8, 9] [] rfl rfl (by decide) (by decide) (by decide) (ci := 3) (q0 := 0) rfl rfl rfl rfl hl.1 rfl (Nat.le_of_ble_eq_true rfl) dX4_value_297 ⟨Nat.le_of_ble_eq_true rfl, Nat.le_of_ble_eq_true rfl⟩ (fun r_37 u_37 H locs hw_37 hP hD hS => ?_)
                          have hP : va_P (dC, dI) vwCl (wM cA m0 m1 m2 m3 m4 m5 m6 m7 m8 m9 cd row sz1 nd (va_up tg fd (row at_)) (va_up st fd xa_9) (va_up ln fd xn_9) (upd pa fd (-1)) rd of ar dp xa_9 (nI 0) (fd + 1) pl tx1 ou wr op on dn) H := hP
                          have hD : va_D A (wM cA m0 m1 m2 m3 m4 m5 m6 m7 m8 m9 cd row sz1 nd (va_up tg fd (row at_)) (va_up st fd xa_9) (va_up ln fd xn_9) (upd pa fd (-1)) rd of ar dp xa_9 (nI 0) (fd + 1) pl tx1 ou wr op on dn) := hD
                          have hw_37 : r_37 = if okC (row at_) tx1 0 xn_9 = true then 1 else 0 := hw_37
                          have hw_37 := hw_37.symm
                          subst hw_37
                          refine hl_ifb_ne (tgt := 310) hx hb dX4_value_300 (by decide) (fun c_38 => ?_) (fun c_38 => ?_)
                          · refine lv_aload_n hx hb dX4_value_310 rfl (lv_at hl 4 rfl) ?_
                            refine lv_dup hx hb dX4_value_311 rfl ?_
                            refine va_get (D := (dC, dI)) (ci := 3) (v := .int (nI xa_9)) (C := RX4) (T := TX4) (N := 22) hx hb hts hinX4 hown hK hP 0 rfl rfl 12 (by decide) hf_72 (fun _ h9 => h9) rfl dX4_value_312 ?_
                            refine lv_iload_n hx hb dX4_value_315 rfl (lv_at hl 2 rfl) ?_
                            refine hl_iadd hx hb dX4_value_316 ?_
                            refine va_put (D := (dC, dI)) (ci := 3) (v := .int (nI (xa_9 + xn_9))) (ty := .int) (C := RX4) (T := TX4) (N := 22) hx hb hts hinX4 tyX4 tyX4_ok nmX4 hown hK hP hD hS 0 rfl rfl 12 (by decide) hf_72 (fun _ h9 => h9) rfl (by decide +kernel) rfl rfl (Nat.le_of_ble_eq_true rfl) dX4_value_317 (fun H locs hP hD hS => ?_)
                            have hP : va_P (dC, dI) vwCl (wM cA m0 m1 m2 m3 m4 m5 m6 m7 m8 m9 cd row sz1 nd (va_up tg fd (row at_)) (va_up st fd xa_9) (va_up ln fd xn_9) (upd pa fd (-1)) rd of ar dp (xa_9 + xn_9) (nI 0) (fd + 1) pl tx1 ou wr op on dn) H := hP
                            have hD : va_D A (wM cA m0 m1 m2 m3 m4 m5 m6 m7 m8 m9 cd row sz1 nd (va_up tg fd (row at_)) (va_up st fd xa_9) (va_up ln fd xn_9) (upd pa fd (-1)) rd of ar dp (xa_9 + xn_9) (nI 0) (fd + 1) pl tx1 ou wr op on dn) := hD
                            have hP9 : va_P (dC, dI) vwCl (vX4_value cA m0 m1 m2 m3 m4 m5 m6 m7 m8 m9 cd row sz1 nd tg st ln pa rd of ar dp at_ fd pl tx ou wr op on dn (nI 0, pl, fd + 1, va_up tg fd (row at_), va_up st fd xa_9, va_up ln fd xn_9, upd pa fd (-1), ar, dp, xa_9 + xn_9, tx1, xn_9, xa_9)) _ := hP
                            have hD9 : va_D A (vX4_value cA m0 m1 m2 m3 m4 m5 m6 m7 m8 m9 cd row sz1 nd tg st ln pa rd of ar dp at_ fd pl tx ou wr op on dn (nI 0, pl, fd + 1, va_up tg fd (row at_), va_up st fd xa_9, va_up ln fd xn_9, upd pa fd (-1), ar, dp, xa_9 + xn_9, tx1, xn_9, xa_9)) := hD
                            have hq9 : pX4_value m0 m1 m2 m3 m4 m5 m6 m7 m8 m9 cd row sz1 nd tg st ln pa rd of ar dp at_ fd pl tx ou wr op on dn (nI 0, pl, fd + 1, va_up tg fd (row at_), va_up st fd xa_9, va_up ln fd xn_9, upd pa fd (-1), ar, dp, xa_9 + xn_9, tx1, xn_9, xa_9) := ⟨Or.inl ⟨by unfold valS; rw [hidn]; dsimp only; rw [hle_9]; dsimp only; unfold conS; rw [if_neg (by omega), if_neg (fun h => h (by rw [← hcon]; assumption))], rfl, rfl, rfl, rfl, rfl, rfl, (by first | (exfalso; omega) | (unfold parI; rw [if_pos (by assumption)]) | (unfold parI; rw [if_neg (by assumption)])), (by unfold nxA; rw [if_neg h48]), (by unfold nxL; rw [if_neg h48]), (by unfold nxP; rw [if_neg h48])⟩, up_lt htg (hrow _), up_lt hst (by omega), up_lt hln (by omega), har, hb1, by omega, by omega, by omega⟩
                            exact W.vret hx hb hr (fun t ht hW => ⟨⟨(nI 0, pl, fd + 1, va_up tg fd (row at_), va_up st fd xa_9, va_up ln fd xn_9, upd pa fd (-1), ar, dp, xa_9 + xn_9, tx1, xn_9, xa_9), rfl, hq9, by rw [ht]; exact hP9, va_K.moved hW.alike hK, hD9⟩, hS.F ht⟩) hS.2.2 dX4_value_320
                          · refine lv_aload_n hx hb dX4_value_303 rfl (lv_at hl 4 rfl) ?_
                            refine lv_bipush (v := (-5)) hx hb dX4_value_304 (by decide) ?_
                            refine lv_iload_n hx hb dX4_value_306 rfl (lv_at hl 3 rfl) ?_
                            refine cl_Vv (As := [.int (-5), .int (nI at_)]) (rest := []) (wr := []) ⟨hx, hb, hml, hown, hts⟩ (k_X4_fail l dC dI cA m0 m1 m2 m3 m4 m5 m6 m7 m8 m9 cd row sz1 nd (va_up tg fd (row at_)) (va_up st fd xa_9) (va_up ln fd xn_9) (upd pa fd (-1)) rd of ar dp xa_9 (nI 0) (fd + 1) pl tx1 ou wr op on dn (-5) (nI at_) _ ) (cwV 2 hts gX4_value_X4_fail rfl rfl rfl (by decide +kernel) ⟨Nat.le_of_ble_eq_true rfl, Nat.le_of_ble_eq_true rfl⟩) hK hP hD hS hA [0, 1, 2, 3, 4, 5, 6, 7, 8, 9] [] rfl rfl (by decide) (by decide) (by decide) (ci := 3) (q0 := 0) rfl rfl rfl rfl hl.1 rfl (Nat.le_of_ble_eq_true rfl) dX4_value_307 ⟨Nat.le_of_ble_eq_true rfl, Nat.le_of_ble_eq_true rfl⟩ (fun u_39 H locs hw_39 hP hD hS => ?_)
                            obtain ⟨rs2_39, pl2_39⟩ := u_39
                            have hP : va_P (dC, dI) vwCl (wM cA m0 m1 m2 m3 m4 m5 m6 m7 m8 m9 cd row sz1 nd (va_up tg fd (row at_)) (va_up st fd xa_9) (va_up ln fd xn_9) (upd pa fd (-1)) rd of ar dp xa_9 rs2_39 (fd + 1) pl2_39 tx1 ou wr op on dn) H := hP
                            have hD : va_D A (wM cA m0 m1 m2 m3 m4 m5 m6 m7 m8 m9 cd row sz1 nd (va_up tg fd (row at_)) (va_up st fd xa_9) (va_up ln fd xn_9) (upd pa fd (-1)) rd of ar dp xa_9 rs2_39 (fd + 1) pl2_39 tx1 ou wr op on dn) := hD
                            have hw_39 : rs2_39 = (-5) ∧ pl2_39 = (nI at_) := hw_39
                            obtain ⟨e0_39, e1_39⟩ := hw_39
                            have e0_39 := e0_39.symm
                            subst e0_39
                            have e1_39 := e1_39.symm
                            subst e1_39
                            refine lv_aload_n hx hb dX4_value_310 rfl (lv_at hl 4 rfl) ?_
                            refine lv_dup hx hb dX4_value_311 rfl ?_
                            refine va_get (D := (dC, dI)) (ci := 3) (v := .int (nI xa_9)) (C := RX4) (T := TX4) (N := 22) hx hb hts hinX4 hown hK hP 0 rfl rfl 12 (by decide) hf_72 (fun _ h9 => h9) rfl dX4_value_312 ?_
                            refine lv_iload_n hx hb dX4_value_315 rfl (lv_at hl 2 rfl) ?_
                            refine hl_iadd hx hb dX4_value_316 ?_
                            refine va_put (D := (dC, dI)) (ci := 3) (v := .int (nI (xa_9 + xn_9))) (ty := .int) (C := RX4) (T := TX4) (N := 22) hx hb hts hinX4 tyX4 tyX4_ok nmX4 hown hK hP hD hS 0 rfl rfl 12 (by decide) hf_72 (fun _ h9 => h9) rfl (by decide +kernel) rfl rfl (Nat.le_of_ble_eq_true rfl) dX4_value_317 (fun H locs hP hD hS => ?_)
                            have hP : va_P (dC, dI) vwCl (wM cA m0 m1 m2 m3 m4 m5 m6 m7 m8 m9 cd row sz1 nd (va_up tg fd (row at_)) (va_up st fd xa_9) (va_up ln fd xn_9) (upd pa fd (-1)) rd of ar dp (xa_9 + xn_9) (-5) (fd + 1) (nI at_) tx1 ou wr op on dn) H := hP
                            have hD : va_D A (wM cA m0 m1 m2 m3 m4 m5 m6 m7 m8 m9 cd row sz1 nd (va_up tg fd (row at_)) (va_up st fd xa_9) (va_up ln fd xn_9) (upd pa fd (-1)) rd of ar dp (xa_9 + xn_9) (-5) (fd + 1) (nI at_) tx1 ou wr op on dn) := hD
                            have hP9 : va_P (dC, dI) vwCl (vX4_value cA m0 m1 m2 m3 m4 m5 m6 m7 m8 m9 cd row sz1 nd tg st ln pa rd of ar dp at_ fd pl tx ou wr op on dn ((-5), (nI at_), fd + 1, va_up tg fd (row at_), va_up st fd xa_9, va_up ln fd xn_9, upd pa fd (-1), ar, dp, xa_9 + xn_9, tx1, 0, 0)) _ := hP
                            have hD9 : va_D A (vX4_value cA m0 m1 m2 m3 m4 m5 m6 m7 m8 m9 cd row sz1 nd tg st ln pa rd of ar dp at_ fd pl tx ou wr op on dn ((-5), (nI at_), fd + 1, va_up tg fd (row at_), va_up st fd xa_9, va_up ln fd xn_9, upd pa fd (-1), ar, dp, xa_9 + xn_9, tx1, 0, 0)) := hD
                            have hq9 : pX4_value m0 m1 m2 m3 m4 m5 m6 m7 m8 m9 cd row sz1 nd tg st ln pa rd of ar dp at_ fd pl tx ou wr op on dn ((-5), (nI at_), fd + 1, va_up tg fd (row at_), va_up st fd xa_9, va_up ln fd xn_9, upd pa fd (-1), ar, dp, xa_9 + xn_9, tx1, 0, 0) := ⟨Or.inr ⟨by unfold valS; rw [hidn]; dsimp only; rw [hle_9]; dsimp only; unfold conS; rw [if_neg (by omega), if_pos (by rw [← hcon]; assumption)], by decide⟩, up_lt htg (hrow _), up_lt hst (by omega), up_lt hln (by omega), har, hb1, by omega, by omega, by omega⟩
                            exact W.vret hx hb hr (fun t ht hW => ⟨⟨((-5), (nI at_), fd + 1, va_up tg fd (row at_), va_up st fd xa_9, va_up ln fd xn_9, upd pa fd (-1), ar, dp, xa_9 + xn_9, tx1, 0, 0), rfl, hq9, by rw [ht]; exact hP9, va_K.moved hW.alike hK, hD9⟩, hS.F ht⟩) hS.2.2 dX4_value_320
                        · refine lv_aload_n hx hb dX4_value_264 rfl (lv_at hl 4 rfl) ?_
                          refine va_get (D := (dC, dI)) (ci := 3) (v := .ref m7) (C := RX4) (T := TX4) (N := 22) hx hb hts hinX4 hown hK hP 0 rfl rfl 16 (by decide) hf_32 (fun _ h9 => h9) rfl dX4_value_265 ?_
                          refine lv_iload hx hb dX4_value_268 (lv_at hl 0 rfl) ?_
                          refine lv_aload_n hx hb dX4_value_270 rfl (lv_at hl 4 rfl) ?_
                          refine va_get (D := (dC, dI)) (ci := 3) (v := .ref m1) (C := RX4) (T := TX4) (N := 22) hx hb hts hinX4 hown hK hP 0 rfl rfl 1 (by decide) hf_7 (fun _ h9 => h9) rfl dX4_value_271 ?_
                          refine lv_aload_n hx hb dX4_value_274 rfl (lv_at hl 4 rfl) ?_
                          refine va_get (D := (dC, dI)) (ci := 3) (v := .int (nI xa_9)) (C := RX4) (T := TX4) (N := 22) hx hb hts hinX4 hown hK hP 0 rfl rfl 12 (by decide) hf_72 (fun _ h9 => h9) rfl dX4_value_275 ?_
                          refine lv_iload hx hb dX4_value_278 (lv_at hl 0 rfl) ?_
                          refine hl_iadd hx hb dX4_value_280 ?_
                          refine hl_iald hx hb hK hP 1 0 rfl rfl (by omega) (by decide) dX4_value_281 ?_
                          have hv_40 := hrow (xa_9 + k)
                          refine hl_iast hx hb hK hP hD hS 7 0 rfl rfl (by omega) (by decide) dX4_value_282 (fun H locs hP hD hS => ?_)
                          have hP : va_P (dC, dI) vwCl (wM cA m0 m1 m2 m3 m4 m5 m6 m7 m8 m9 cd row sz1 nd (va_up tg fd (row at_)) (va_up st fd xa_9) (va_up ln fd xn_9) (upd pa fd (-1)) rd of ar dp xa_9 (nI 0) (fd + 1) pl (va_up tx1 k (row (xa_9 + k))) ou wr op on dn) H := hP
                          have hD : va_D A (wM cA m0 m1 m2 m3 m4 m5 m6 m7 m8 m9 cd row sz1 nd (va_up tg fd (row at_)) (va_up st fd xa_9) (va_up ln fd xn_9) (upd pa fd (-1)) rd of ar dp xa_9 (nI 0) (fd + 1) pl (va_up tx1 k (row (xa_9 + k))) ou wr op on dn) := hD
                          refine lv_iinc (v := (nI (k + 1))) (lv' := [(4, .int (nI (k + 1))), (3, .int (nI ((st (ar (dp - 1))) + (ln (ar (dp - 1)))))), (2, .int (nI xn_9)), (1, .int (nI at_)), (0, .ref m0)]) hx hb dX4_value_283 hl (k := 0) rfl (nI_inc k 1) (by decide) rfl (fun ls hl => ?_)
                          refine lv_goto (tgt := 258) hx hb dX4_value_286 (by decide) ?_
                          exact ih_258 (k + 1) (va_up tx1 k (row (xa_9 + k))) (by omega) (by omega) (fun j hj => by by_cases e : j = k; rw [e, up_eq]; rw [up_ne _ _ e]; exact hc1 j (by omega)) (up_lt hb1 (hrow _)) _ _ _ hP hD hS (lv_sub hl [0, 1, 2, 3, 4] rfl)
                    exact lp_258 (xn_9 - 0 + 1) 0 tx (Nat.lt_succ_self _) (by omega) (fun j hj => absurd hj (Nat.not_lt_zero j)) htx _ _ _ hP hD hS (lv_sub hl [0, 1, 2, 3, 4] rfl)
                  · have h48 := c_33
                    refine lv_aload_n hx hb dX4_value_229 rfl (lv_at hl 3 rfl) ?_
                    refine va_get (D := (dC, dI)) (ci := 3) (v := .ref m6) (C := RX4) (T := TX4) (N := 22) hx hb hts hinX4 hown hK hP 0 rfl rfl 10 (by decide) hf_29 (fun _ h9 => h9) rfl dX4_value_230 ?_
                    refine lv_aload_n hx hb dX4_value_233 rfl (lv_at hl 3 rfl) ?_
                    refine va_get (D := (dC, dI)) (ci := 3) (v := .int (nI dp)) (C := RX4) (T := TX4) (N := 22) hx hb hts hinX4 hown hK hP 0 rfl rfl 11 (by decide) hf_61 (fun _ h9 => h9) rfl dX4_value_234 ?_
                    refine lv_aload_n hx hb dX4_value_237 rfl (lv_at hl 3 rfl) ?_
                    refine va_get (D := (dC, dI)) (ci := 3) (v := .int (nI (fd + 1))) (C := RX4) (T := TX4) (N := 22) hx hb hts hinX4 hown hK hP 0 rfl rfl 14 (by decide) hf_78 (fun _ h9 => h9) rfl dX4_value_238 ?_
                    refine lv_iconst (v := nI 1) hx hb dX4_value_241 (by decide) ?_
                    refine hl_isub hx hb (by omega) dX4_value_242 ?_
                    refine hl_top (show nI (fd + 1 - 1) = nI fd from rfl) ?_
                    refine hl_iast hx hb hK hP hD hS 6 0 rfl rfl (by omega) (by decide) dX4_value_243 (fun H locs hP hD hS => ?_)
                    have hP : va_P (dC, dI) vwCl (wM cA m0 m1 m2 m3 m4 m5 m6 m7 m8 m9 cd row sz1 nd (va_up tg fd (row at_)) (va_up st fd xa_9) (va_up ln fd xn_9) (upd pa fd (-1)) rd of (va_up ar dp fd) dp xa_9 (nI 0) (fd + 1) pl tx ou wr op on dn) H := hP
                    have hD : va_D A (wM cA m0 m1 m2 m3 m4 m5 m6 m7 m8 m9 cd row sz1 nd (va_up tg fd (row at_)) (va_up st fd xa_9) (va_up ln fd xn_9) (upd pa fd (-1)) rd of (va_up ar dp fd) dp xa_9 (nI 0) (fd + 1) pl tx ou wr op on dn) := hD
                    have hB_41 := up_lt har (k := dp) (x := fd) (by omega)
                    refine lv_aload_n hx hb dX4_value_244 rfl (lv_at hl 3 rfl) ?_
                    refine lv_dup hx hb dX4_value_245 rfl ?_
                    refine va_get (D := (dC, dI)) (ci := 3) (v := .int (nI dp)) (C := RX4) (T := TX4) (N := 22) hx hb hts hinX4 hown hK hP 0 rfl rfl 11 (by decide) hf_61 (fun _ h9 => h9) rfl dX4_value_246 ?_
                    refine lv_iconst (v := nI 1) hx hb dX4_value_249 (by decide) ?_
                    refine hl_iadd hx hb dX4_value_250 ?_
                    refine va_put (D := (dC, dI)) (ci := 3) (v := .int (nI (dp + 1))) (ty := .int) (C := RX4) (T := TX4) (N := 22) hx hb hts hinX4 tyX4 tyX4_ok nmX4 hown hK hP hD hS 0 rfl rfl 11 (by decide) hf_61 (fun _ h9 => h9) rfl (by decide +kernel) rfl rfl (Nat.le_of_ble_eq_true rfl) dX4_value_251 (fun H locs hP hD hS => ?_)
                    have hP : va_P (dC, dI) vwCl (wM cA m0 m1 m2 m3 m4 m5 m6 m7 m8 m9 cd row sz1 nd (va_up tg fd (row at_)) (va_up st fd xa_9) (va_up ln fd xn_9) (upd pa fd (-1)) rd of (va_up ar dp fd) (dp + 1) xa_9 (nI 0) (fd + 1) pl tx ou wr op on dn) H := hP
                    have hD : va_D A (wM cA m0 m1 m2 m3 m4 m5 m6 m7 m8 m9 cd row sz1 nd (va_up tg fd (row at_)) (va_up st fd xa_9) (va_up ln fd xn_9) (upd pa fd (-1)) rd of (va_up ar dp fd) (dp + 1) xa_9 (nI 0) (fd + 1) pl tx ou wr op on dn) := hD
                    have hP9 : va_P (dC, dI) vwCl (vX4_value cA m0 m1 m2 m3 m4 m5 m6 m7 m8 m9 cd row sz1 nd tg st ln pa rd of ar dp at_ fd pl tx ou wr op on dn (nI 0, pl, fd + 1, va_up tg fd (row at_), va_up st fd xa_9, va_up ln fd xn_9, upd pa fd (-1), va_up ar dp fd, dp + 1, xa_9, tx, xn_9, xa_9)) _ := hP
                    have hD9 : va_D A (vX4_value cA m0 m1 m2 m3 m4 m5 m6 m7 m8 m9 cd row sz1 nd tg st ln pa rd of ar dp at_ fd pl tx ou wr op on dn (nI 0, pl, fd + 1, va_up tg fd (row at_), va_up st fd xa_9, va_up ln fd xn_9, upd pa fd (-1), va_up ar dp fd, dp + 1, xa_9, tx, xn_9, xa_9)) := hD
                    have hq9 : pX4_value m0 m1 m2 m3 m4 m5 m6 m7 m8 m9 cd row sz1 nd tg st ln pa rd of ar dp at_ fd pl tx ou wr op on dn (nI 0, pl, fd + 1, va_up tg fd (row at_), va_up st fd xa_9, va_up ln fd xn_9, upd pa fd (-1), va_up ar dp fd, dp + 1, xa_9, tx, xn_9, xa_9) := ⟨Or.inl ⟨by unfold valS; rw [hidn]; dsimp only; rw [hle_9]; dsimp only; unfold conS; rw [if_neg (by omega), if_neg (fun h => h (by unfold okC; simp [h48]))], rfl, rfl, rfl, rfl, rfl, rfl, (by first | (exfalso; omega) | (unfold parI; rw [if_pos (by assumption)]) | (unfold parI; rw [if_neg (by assumption)])), (by unfold nxA; rw [if_pos h48]), (by unfold nxL; rw [if_pos h48]), (by unfold nxP; rw [if_pos h48])⟩, up_lt htg (hrow _), up_lt hst (by omega), up_lt hln (by omega), up_lt har (by omega), htx, by omega, by omega, by omega⟩
                    exact W.vret hx hb hr (fun t ht hW => ⟨⟨(nI 0, pl, fd + 1, va_up tg fd (row at_), va_up st fd xa_9, va_up ln fd xn_9, upd pa fd (-1), va_up ar dp fd, dp + 1, xa_9, tx, xn_9, xa_9), rfl, hq9, by rw [ht]; exact hP9, va_K.moved hW.alike hK, hD9⟩, hS.F ht⟩) hS.2.2 dX4_value_254
              · refine lv_aload_n hx hb dX4_value_131 rfl (lv_at hl 3 rfl) ?_
                refine lv_bipush (v := (-4)) hx hb dX4_value_132 (by decide) ?_
                refine lv_iload_n hx hb dX4_value_134 rfl (lv_at hl 2 rfl) ?_
                refine cl_Vv (As := [.int (-4), .int (nI at_)]) (rest := []) (wr := []) ⟨hx, hb, hml, hown, hts⟩ (k_X4_fail l dC dI cA m0 m1 m2 m3 m4 m5 m6 m7 m8 m9 cd row sz1 nd tg st ln pa rd of ar dp xa_9 (nI 0) fd pl tx ou wr op on dn (-4) (nI at_) _ ) (cwV 2 hts gX4_value_X4_fail rfl rfl rfl (by decide +kernel) ⟨Nat.le_of_ble_eq_true rfl, Nat.le_of_ble_eq_true rfl⟩) hK hP hD hS hA [0, 1, 2, 3, 4, 5, 6, 7, 8, 9] [] rfl rfl (by decide) (by decide) (by decide) (ci := 3) (q0 := 0) rfl rfl rfl rfl hl.1 rfl (Nat.le_of_ble_eq_true rfl) dX4_value_135 ⟨Nat.le_of_ble_eq_true rfl, Nat.le_of_ble_eq_true rfl⟩ (fun u_42 H locs hw_42 hP hD hS => ?_)
                obtain ⟨rs2_42, pl2_42⟩ := u_42
                have hP : va_P (dC, dI) vwCl (wM cA m0 m1 m2 m3 m4 m5 m6 m7 m8 m9 cd row sz1 nd tg st ln pa rd of ar dp xa_9 rs2_42 fd pl2_42 tx ou wr op on dn) H := hP
                have hD : va_D A (wM cA m0 m1 m2 m3 m4 m5 m6 m7 m8 m9 cd row sz1 nd tg st ln pa rd of ar dp xa_9 rs2_42 fd pl2_42 tx ou wr op on dn) := hD
                have hw_42 : rs2_42 = (-4) ∧ pl2_42 = (nI at_) := hw_42
                obtain ⟨e0_42, e1_42⟩ := hw_42
                have e0_42 := e0_42.symm
                subst e0_42
                have e1_42 := e1_42.symm
                subst e1_42
                have hP9 : va_P (dC, dI) vwCl (vX4_value cA m0 m1 m2 m3 m4 m5 m6 m7 m8 m9 cd row sz1 nd tg st ln pa rd of ar dp at_ fd pl tx ou wr op on dn ((-4), (nI at_), fd, tg, st, ln, pa, ar, dp, xa_9, tx, 0, 0)) _ := hP
                have hD9 : va_D A (vX4_value cA m0 m1 m2 m3 m4 m5 m6 m7 m8 m9 cd row sz1 nd tg st ln pa rd of ar dp at_ fd pl tx ou wr op on dn ((-4), (nI at_), fd, tg, st, ln, pa, ar, dp, xa_9, tx, 0, 0)) := hD
                have hq9 : pX4_value m0 m1 m2 m3 m4 m5 m6 m7 m8 m9 cd row sz1 nd tg st ln pa rd of ar dp at_ fd pl tx ou wr op on dn ((-4), (nI at_), fd, tg, st, ln, pa, ar, dp, xa_9, tx, 0, 0) := ⟨Or.inr ⟨by unfold valS; rw [hidn]; dsimp only; rw [hle_9]; dsimp only; unfold conS; rw [if_pos (by omega)], by decide⟩, htg, hst, hln, har, htx, by omega, by omega, by omega⟩
                exact W.vret hx hb hr (fun t ht hW => ⟨⟨((-4), (nI at_), fd, tg, st, ln, pa, ar, dp, xa_9, tx, 0, 0), rfl, hq9, by rw [ht]; exact hP9, va_K.moved hW.alike hK, hD9⟩, hS.F ht⟩) hS.2.2 dX4_value_138
            · refine lv_aload_n hx hb dX4_value_80 rfl (lv_at hl 2 rfl) ?_
              refine va_get (D := (dC, dI)) (ci := 3) (v := .int (nI sz1)) (C := RX4) (T := TX4) (N := 22) hx hb hts hinX4 hown hK hP 0 rfl rfl 2 (by decide) hf_48 (fun _ h9 => h9) rfl dX4_value_81 ?_
              refine lv_goto (tgt := 120) hx hb dX4_value_84 (by decide) ?_
              refine lv_istore_n (lv' := [(3, .int (nI sz1)), (2, .int (nI xn_9)), (1, .int (nI at_)), (0, .ref m0)]) hx hb dX4_value_120 rfl hl (by decide) rfl (fun ls hl => ?_)
              have hLE : limN sz1 dp ar st ln = sz1 := by unfold limN; first | rw [if_pos (by assumption)] | rw [if_neg (by assumption)]
              refine lv_aload_n hx hb dX4_value_121 rfl (lv_at hl 3 rfl) ?_
              refine va_get (D := (dC, dI)) (ci := 3) (v := .int (nI xa_9)) (C := RX4) (T := TX4) (N := 22) hx hb hts hinX4 hown hK hP 0 rfl rfl 12 (by decide) hf_72 (fun _ h9 => h9) rfl dX4_value_122 ?_
              refine lv_iload_n hx hb dX4_value_125 rfl (lv_at hl 1 rfl) ?_
              refine hl_iadd hx hb dX4_value_126 ?_
              refine lv_iload_n hx hb dX4_value_127 rfl (lv_at hl 0 rfl) ?_
              refine hl_icmp_le (tgt := 139) hx hb dX4_value_128 (by decide) (by omega) (by omega) (fun c_43 => ?_) (fun c_43 => ?_)
              · refine lv_aload_n hx hb dX4_value_139 rfl (lv_at hl 3 rfl) ?_
                refine va_get (D := (dC, dI)) (ci := 3) (v := .ref m2) (C := RX4) (T := TX4) (N := 22) hx hb hts hinX4 hown hK hP 0 rfl rfl 4 (by decide) hf_13 (fun _ h9 => h9) rfl dX4_value_140 ?_
                refine lv_aload_n hx hb dX4_value_143 rfl (lv_at hl 3 rfl) ?_
                refine va_get (D := (dC, dI)) (ci := 3) (v := .int (nI fd)) (C := RX4) (T := TX4) (N := 22) hx hb hts hinX4 hown hK hP 0 rfl rfl 14 (by decide) hf_78 (fun _ h9 => h9) rfl dX4_value_144 ?_
                refine lv_aload_n hx hb dX4_value_147 rfl (lv_at hl 3 rfl) ?_
                refine va_get (D := (dC, dI)) (ci := 3) (v := .ref m1) (C := RX4) (T := TX4) (N := 22) hx hb hts hinX4 hown hK hP 0 rfl rfl 1 (by decide) hf_7 (fun _ h9 => h9) rfl dX4_value_148 ?_
                refine lv_iload_n hx hb dX4_value_151 rfl (lv_at hl 2 rfl) ?_
                refine hl_iald hx hb hK hP 1 0 rfl rfl (by omega) (by decide) dX4_value_152 ?_
                have hv_44 := hrow at_
                refine hl_iast hx hb hK hP hD hS 2 0 rfl rfl (by omega) (by decide) dX4_value_153 (fun H locs hP hD hS => ?_)
                have hP : va_P (dC, dI) vwCl (wM cA m0 m1 m2 m3 m4 m5 m6 m7 m8 m9 cd row sz1 nd (va_up tg fd (row at_)) st ln pa rd of ar dp xa_9 (nI 0) fd pl tx ou wr op on dn) H := hP
                have hD : va_D A (wM cA m0 m1 m2 m3 m4 m5 m6 m7 m8 m9 cd row sz1 nd (va_up tg fd (row at_)) st ln pa rd of ar dp xa_9 (nI 0) fd pl tx ou wr op on dn) := hD
                refine lv_aload_n hx hb dX4_value_154 rfl (lv_at hl 3 rfl) ?_
                refine va_get (D := (dC, dI)) (ci := 3) (v := .ref m3) (C := RX4) (T := TX4) (N := 22) hx hb hts hinX4 hown hK hP 0 rfl rfl 5 (by decide) hf_16 (fun _ h9 => h9) rfl dX4_value_155 ?_
                refine lv_aload_n hx hb dX4_value_158 rfl (lv_at hl 3 rfl) ?_
                refine va_get (D := (dC, dI)) (ci := 3) (v := .int (nI fd)) (C := RX4) (T := TX4) (N := 22) hx hb hts hinX4 hown hK hP 0 rfl rfl 14 (by decide) hf_78 (fun _ h9 => h9) rfl dX4_value_159 ?_
                refine lv_aload_n hx hb dX4_value_162 rfl (lv_at hl 3 rfl) ?_
                refine va_get (D := (dC, dI)) (ci := 3) (v := .int (nI xa_9)) (C := RX4) (T := TX4) (N := 22) hx hb hts hinX4 hown hK hP 0 rfl rfl 12 (by decide) hf_72 (fun _ h9 => h9) rfl dX4_value_163 ?_
                refine hl_iast hx hb hK hP hD hS 3 0 rfl rfl (by omega) (by decide) dX4_value_166 (fun H locs hP hD hS => ?_)
                have hP : va_P (dC, dI) vwCl (wM cA m0 m1 m2 m3 m4 m5 m6 m7 m8 m9 cd row sz1 nd (va_up tg fd (row at_)) (va_up st fd xa_9) ln pa rd of ar dp xa_9 (nI 0) fd pl tx ou wr op on dn) H := hP
                have hD : va_D A (wM cA m0 m1 m2 m3 m4 m5 m6 m7 m8 m9 cd row sz1 nd (va_up tg fd (row at_)) (va_up st fd xa_9) ln pa rd of ar dp xa_9 (nI 0) fd pl tx ou wr op on dn) := hD
                have hB_45 := up_lt hst (k := fd) (x := xa_9) (by omega)
                refine lv_aload_n hx hb dX4_value_167 rfl (lv_at hl 3 rfl) ?_
                refine va_get (D := (dC, dI)) (ci := 3) (v := .ref m4) (C := RX4) (T := TX4) (N := 22) hx hb hts hinX4 hown hK hP 0 rfl rfl 6 (by decide) hf_19 (fun _ h9 => h9) rfl dX4_value_168 ?_
                refine lv_aload_n hx hb dX4_value_171 rfl (lv_at hl 3 rfl) ?_
                refine va_get (D := (dC, dI)) (ci := 3) (v := .int (nI fd)) (C := RX4) (T := TX4) (N := 22) hx hb hts hinX4 hown hK hP 0 rfl rfl 14 (by decide) hf_78 (fun _ h9 => h9) rfl dX4_value_172 ?_
                refine lv_iload_n hx hb dX4_value_175 rfl (lv_at hl 1 rfl) ?_
                refine hl_iast hx hb hK hP hD hS 4 0 rfl rfl (by omega) (by decide) dX4_value_176 (fun H locs hP hD hS => ?_)
                have hP : va_P (dC, dI) vwCl (wM cA m0 m1 m2 m3 m4 m5 m6 m7 m8 m9 cd row sz1 nd (va_up tg fd (row at_)) (va_up st fd xa_9) (va_up ln fd xn_9) pa rd of ar dp xa_9 (nI 0) fd pl tx ou wr op on dn) H := hP
                have hD : va_D A (wM cA m0 m1 m2 m3 m4 m5 m6 m7 m8 m9 cd row sz1 nd (va_up tg fd (row at_)) (va_up st fd xa_9) (va_up ln fd xn_9) pa rd of ar dp xa_9 (nI 0) fd pl tx ou wr op on dn) := hD
                have hB_46 := up_lt hln (k := fd) (x := xn_9) (by omega)
                refine lv_aload_n hx hb dX4_value_177 rfl (lv_at hl 3 rfl) ?_
                refine va_get (D := (dC, dI)) (ci := 3) (v := .ref m5) (C := RX4) (T := TX4) (N := 22) hx hb hts hinX4 hown hK hP 0 rfl rfl 7 (by decide) hf_22 (fun _ h9 => h9) rfl dX4_value_178 ?_
                refine lv_aload_n hx hb dX4_value_181 rfl (lv_at hl 3 rfl) ?_
                refine va_get (D := (dC, dI)) (ci := 3) (v := .int (nI fd)) (C := RX4) (T := TX4) (N := 22) hx hb hts hinX4 hown hK hP 0 rfl rfl 14 (by decide) hf_78 (fun _ h9 => h9) rfl dX4_value_182 ?_
                refine lv_aload_n hx hb dX4_value_185 rfl (lv_at hl 3 rfl) ?_
                refine va_get (D := (dC, dI)) (ci := 3) (v := .int (nI dp)) (C := RX4) (T := TX4) (N := 22) hx hb hts hinX4 hown hK hP 0 rfl rfl 11 (by decide) hf_61 (fun _ h9 => h9) rfl dX4_value_186 ?_
                refine hl_if_ne (tgt := 196) hx hb dX4_value_189 (by decide) (by omega) (fun c_47 => ?_) (fun c_47 => ?_)
                · refine lv_aload_n hx hb dX4_value_196 rfl (lv_at hl 3 rfl) ?_
                  refine va_get (D := (dC, dI)) (ci := 3) (v := .ref m6) (C := RX4) (T := TX4) (N := 22) hx hb hts hinX4 hown hK hP 0 rfl rfl 10 (by decide) hf_29 (fun _ h9 => h9) rfl dX4_value_197 ?_
                  refine lv_aload_n hx hb dX4_value_200 rfl (lv_at hl 3 rfl) ?_
                  refine va_get (D := (dC, dI)) (ci := 3) (v := .int (nI dp)) (C := RX4) (T := TX4) (N := 22) hx hb hts hinX4 hown hK hP 0 rfl rfl 11 (by decide) hf_61 (fun _ h9 => h9) rfl dX4_value_201 ?_
                  refine lv_iconst (v := nI 1) hx hb dX4_value_204 (by decide) ?_
                  refine hl_isub hx hb (by omega) dX4_value_205 ?_
                  refine hl_iald hx hb hK hP 6 0 rfl rfl (by omega) (by decide) dX4_value_206 ?_
                  have hv_48 := har (dp - 1)
                  refine hl_iastI hx hb hK hP hD hS 5 0 rfl rfl (by omega) (by decide) dX4_value_207 (fun H locs hP hD hS => ?_)
                  have hP : va_P (dC, dI) vwCl (wM cA m0 m1 m2 m3 m4 m5 m6 m7 m8 m9 cd row sz1 nd (va_up tg fd (row at_)) (va_up st fd xa_9) (va_up ln fd xn_9) (upd pa fd (nI (ar (dp - 1)))) rd of ar dp xa_9 (nI 0) fd pl tx ou wr op on dn) H := hP
                  have hD : va_D A (wM cA m0 m1 m2 m3 m4 m5 m6 m7 m8 m9 cd row sz1 nd (va_up tg fd (row at_)) (va_up st fd xa_9) (va_up ln fd xn_9) (upd pa fd (nI (ar (dp - 1)))) rd of ar dp xa_9 (nI 0) fd pl tx ou wr op on dn) := hD
                  refine lv_aload_n hx hb dX4_value_208 rfl (lv_at hl 3 rfl) ?_
                  refine lv_dup hx hb dX4_value_209 rfl ?_
                  refine va_get (D := (dC, dI)) (ci := 3) (v := .int (nI fd)) (C := RX4) (T := TX4) (N := 22) hx hb hts hinX4 hown hK hP 0 rfl rfl 14 (by decide) hf_78 (fun _ h9 => h9) rfl dX4_value_210 ?_
                  refine lv_iconst (v := nI 1) hx hb dX4_value_213 (by decide) ?_
                  refine hl_iadd hx hb dX4_value_214 ?_
                  refine va_put (D := (dC, dI)) (ci := 3) (v := .int (nI (fd + 1))) (ty := .int) (C := RX4) (T := TX4) (N := 22) hx hb hts hinX4 tyX4 tyX4_ok nmX4 hown hK hP hD hS 0 rfl rfl 14 (by decide) hf_78 (fun _ h9 => h9) rfl (by decide +kernel) rfl rfl (Nat.le_of_ble_eq_true rfl) dX4_value_215 (fun H locs hP hD hS => ?_)
                  have hP : va_P (dC, dI) vwCl (wM cA m0 m1 m2 m3 m4 m5 m6 m7 m8 m9 cd row sz1 nd (va_up tg fd (row at_)) (va_up st fd xa_9) (va_up ln fd xn_9) (upd pa fd (nI (ar (dp - 1)))) rd of ar dp xa_9 (nI 0) (fd + 1) pl tx ou wr op on dn) H := hP
                  have hD : va_D A (wM cA m0 m1 m2 m3 m4 m5 m6 m7 m8 m9 cd row sz1 nd (va_up tg fd (row at_)) (va_up st fd xa_9) (va_up ln fd xn_9) (upd pa fd (nI (ar (dp - 1)))) rd of ar dp xa_9 (nI 0) (fd + 1) pl tx ou wr op on dn) := hD
                  refine lv_aload_n hx hb dX4_value_218 rfl (lv_at hl 3 rfl) ?_
                  refine va_get (D := (dC, dI)) (ci := 3) (v := .ref m1) (C := RX4) (T := TX4) (N := 22) hx hb hts hinX4 hown hK hP 0 rfl rfl 1 (by decide) hf_7 (fun _ h9 => h9) rfl dX4_value_219 ?_
                  refine lv_iload_n hx hb dX4_value_222 rfl (lv_at hl 2 rfl) ?_
                  refine hl_iald hx hb hK hP 1 0 rfl rfl (by omega) (by decide) dX4_value_223 ?_
                  have hv_49 := hrow at_
                  refine lv_bipush (v := nI 48) hx hb dX4_value_224 (by decide) ?_
                  refine hl_icmp_ne (tgt := 255) hx hb dX4_value_226 (by decide) (by omega) (by omega) (fun c_50 => ?_) (fun c_50 => ?_)
                  · have h48 := c_50
                    refine lv_iconst (v := nI 0) hx hb dX4_value_255 (by decide) ?_
                    refine lv_istore (lv' := [(4, .int (nI 0)), (3, .int (nI sz1)), (2, .int (nI xn_9)), (1, .int (nI at_)), (0, .ref m0)]) hx hb dX4_value_256 hl (by decide) rfl (fun ls hl => ?_)
                    have lp_258 : ∀ (nf : Nat) (k : Nat) (tx1 : Nat → Nat), xn_9 - k < nf → (k ≤ xn_9) → (∀ j, j < k → tx1 j = row (xa_9 + j)) → (∀ j, tx1 j < 256) → ∀ (H : Heap) (locs : List Loc) (ls : Array Slot), va_P (dC, dI) vwCl (wM cA m0 m1 m2 m3 m4 m5 m6 m7 m8 m9 cd row sz1 nd (va_up tg fd (row at_)) (va_up st fd xa_9) (va_up ln fd xn_9) (upd pa fd (nI (ar (dp - 1)))) rd of ar dp xa_9 (nI 0) (fd + 1) pl tx1 ou wr op on dn) H → va_D A (wM cA m0 m1 m2 m3 m4 m5 m6 m7 m8 m9 cd row sz1 nd (va_up tg fd (row at_)) (va_up st fd xa_9) (va_up ln fd xn_9) (upd pa fd (nI (ar (dp - 1)))) rd of ar dp xa_9 (nI 0) (fd + 1) pl tx1 ou wr op on dn) → va_S A s.heap H locs → lv_has ls 5 [(4, .int (nI k)), (3, .int (nI sz1)), (2, .int (nI xn_9)), (1, .int (nI at_)), (0, .ref m0)] → W p l e (headSpec wsX4_value ({ frames := 3, cells := 0, slots := 0, locals := 71 } : Room)).room s m ([.ref m0] : List Value).toArray below meth c H locs 0 0 (MQ below (qX4_value dC dI cA A m0 m1 m2 m3 m4 m5 m6 m7 m8 m9 cd row sz1 nd tg st ln pa rd of ar dp at_ fd pl tx ou wr op on dn) ([.ref m0] : List Value).toArray s 0 0 A) (F0 m 258 ls []) := by
                      intro nf
                      induction nf with
                      | zero =>
                        intro k tx1 hm
                        exact absurd hm (Nat.not_lt_zero _)
                      | succ nf ih_258 =>
                        intro k tx1 hm hk hc1 hb1 H locs ls hP hD hS hl
                        refine lv_iload hx hb dX4_value_258 (lv_at hl 0 rfl) ?_
                        refine lv_iload_n hx hb dX4_value_260 rfl (lv_at hl 2 rfl) ?_
                        refine hl_icmp_ge (tgt := 289) hx hb dX4_value_261 (by decide) (by omega) (by omega) (fun c_52 => ?_) (fun c_52 => ?_)
                        · have hcon : okC (row at_) tx1 0 xn_9 = okC (row at_) row xa_9 xn_9 := okC_eq (fun j hj => by rw [Nat.zero_add]; exact hc1 j (by omega))
                          refine lv_aload_n hx hb dX4_value_289 rfl (lv_at hl 4 rfl) ?_
                          refine lv_aload_n hx hb dX4_value_290 rfl (lv_at hl 4 rfl) ?_
                          refine va_get (D := (dC, dI)) (ci := 3) (v := .ref m1) (C := RX4) (T := TX4) (N := 22) hx hb hts hinX4 hown hK hP 0 rfl rfl 1 (by decide) hf_7 (fun _ h9 => h9) rfl dX4_value_291 ?_
                          refine lv_iload_n hx hb dX4_value_294 rfl (lv_at hl 3 rfl) ?_
                          refine hl_iald hx hb hK hP 1 0 rfl rfl (by omega) (by decide) dX4_value_295 ?_
                          have hv_53 := hrow at_
                          refine lv_iload_n hx hb dX4_value_296 rfl (lv_at hl 2 rfl) ?_
                          refine cl_Vi (As := [.int (nI (row at_)), .int (nI xn_9)]) (rest := []) (wr := []) ⟨hx, hb, hml, hown, hts⟩ (k_X4_isRight l dC dI cA m0 m1 m2 m3 m4 m5 m6 m7 m8 m9 cd row sz1 nd (va_up tg fd (row at_)) (va_up st fd xa_9) (va_up ln fd xn_9) (upd pa fd (nI (ar (dp - 1)))) rd of ar dp xa_9 (nI 0) (fd + 1) pl tx1 ou wr op on dn (row at_) xn_9 _ hb1 (by omega) (by omega)) (cwV 2 hts gX4_value_X4_isRight rfl rfl rfl (by decide +kernel) ⟨Nat.le_of_ble_eq_true rfl, Nat.le_of_ble_eq_true rfl⟩) hK hP hD hS hA [0, 1, 2, 3, 4, 5, 6, 7, 8, 9] [] rfl rfl (by decide) (by decide) (by decide) (ci := 3) (q0 := 0) rfl rfl rfl rfl hl.1 rfl (Nat.le_of_ble_eq_true rfl) dX4_value_297 ⟨Nat.le_of_ble_eq_true rfl, Nat.le_of_ble_eq_true rfl⟩ (fun r_54 u_54 H locs hw_54 hP hD hS => ?_)
                          have hP : va_P (dC, dI) vwCl (wM cA m0 m1 m2 m3 m4 m5 m6 m7 m8 m9 cd row sz1 nd (va_up tg fd (row at_)) (va_up st fd xa_9) (va_up ln fd xn_9) (upd pa fd (nI (ar (dp - 1)))) rd of ar dp xa_9 (nI 0) (fd + 1) pl tx1 ou wr op on dn) H := hP
                          have hD : va_D A (wM cA m0 m1 m2 m3 m4 m5 m6 m7 m8 m9 cd row sz1 nd (va_up tg fd (row at_)) (va_up st fd xa_9) (va_up ln fd xn_9) (upd pa fd (nI (ar (dp - 1)))) rd of ar dp xa_9 (nI 0) (fd + 1) pl tx1 ou wr op on dn) := hD
                          have hw_54 : r_54 = if okC (row at_) tx1 0 xn_9 = true then 1 else 0 := hw_54
                          have hw_54 := hw_54.symm
                          subst hw_54
                          refine hl_ifb_ne (tgt := 310) hx hb dX4_value_300 (by decide) (fun c_55 => ?_) (fun c_55 => ?_)
                          · refine lv_aload_n hx hb dX4_value_310 rfl (lv_at hl 4 rfl) ?_
                            refine lv_dup hx hb dX4_value_311 rfl ?_
                            refine va_get (D := (dC, dI)) (ci := 3) (v := .int (nI xa_9)) (C := RX4) (T := TX4) (N := 22) hx hb hts hinX4 hown hK hP 0 rfl rfl 12 (by decide) hf_72 (fun _ h9 => h9) rfl dX4_value_312 ?_
                            refine lv_iload_n hx hb dX4_value_315 rfl (lv_at hl 2 rfl) ?_
                            refine hl_iadd hx hb dX4_value_316 ?_
                            refine va_put (D := (dC, dI)) (ci := 3) (v := .int (nI (xa_9 + xn_9))) (ty := .int) (C := RX4) (T := TX4) (N := 22) hx hb hts hinX4 tyX4 tyX4_ok nmX4 hown hK hP hD hS 0 rfl rfl 12 (by decide) hf_72 (fun _ h9 => h9) rfl (by decide +kernel) rfl rfl (Nat.le_of_ble_eq_true rfl) dX4_value_317 (fun H locs hP hD hS => ?_)
                            have hP : va_P (dC, dI) vwCl (wM cA m0 m1 m2 m3 m4 m5 m6 m7 m8 m9 cd row sz1 nd (va_up tg fd (row at_)) (va_up st fd xa_9) (va_up ln fd xn_9) (upd pa fd (nI (ar (dp - 1)))) rd of ar dp (xa_9 + xn_9) (nI 0) (fd + 1) pl tx1 ou wr op on dn) H := hP
                            have hD : va_D A (wM cA m0 m1 m2 m3 m4 m5 m6 m7 m8 m9 cd row sz1 nd (va_up tg fd (row at_)) (va_up st fd xa_9) (va_up ln fd xn_9) (upd pa fd (nI (ar (dp - 1)))) rd of ar dp (xa_9 + xn_9) (nI 0) (fd + 1) pl tx1 ou wr op on dn) := hD
                            have hP9 : va_P (dC, dI) vwCl (vX4_value cA m0 m1 m2 m3 m4 m5 m6 m7 m8 m9 cd row sz1 nd tg st ln pa rd of ar dp at_ fd pl tx ou wr op on dn (nI 0, pl, fd + 1, va_up tg fd (row at_), va_up st fd xa_9, va_up ln fd xn_9, upd pa fd (nI (ar (dp - 1))), ar, dp, xa_9 + xn_9, tx1, xn_9, xa_9)) _ := hP
                            have hD9 : va_D A (vX4_value cA m0 m1 m2 m3 m4 m5 m6 m7 m8 m9 cd row sz1 nd tg st ln pa rd of ar dp at_ fd pl tx ou wr op on dn (nI 0, pl, fd + 1, va_up tg fd (row at_), va_up st fd xa_9, va_up ln fd xn_9, upd pa fd (nI (ar (dp - 1))), ar, dp, xa_9 + xn_9, tx1, xn_9, xa_9)) := hD
                            have hq9 : pX4_value m0 m1 m2 m3 m4 m5 m6 m7 m8 m9 cd row sz1 nd tg st ln pa rd of ar dp at_ fd pl tx ou wr op on dn (nI 0, pl, fd + 1, va_up tg fd (row at_), va_up st fd xa_9, va_up ln fd xn_9, upd pa fd (nI (ar (dp - 1))), ar, dp, xa_9 + xn_9, tx1, xn_9, xa_9) := ⟨Or.inl ⟨by unfold valS; rw [hidn]; dsimp only; rw [hle_9]; dsimp only; unfold conS; rw [if_neg (by omega), if_neg (fun h => h (by rw [← hcon]; assumption))], rfl, rfl, rfl, rfl, rfl, rfl, (by first | (exfalso; omega) | (unfold parI; rw [if_pos (by assumption)]) | (unfold parI; rw [if_neg (by assumption)])), (by unfold nxA; rw [if_neg h48]), (by unfold nxL; rw [if_neg h48]), (by unfold nxP; rw [if_neg h48])⟩, up_lt htg (hrow _), up_lt hst (by omega), up_lt hln (by omega), har, hb1, by omega, by omega, by omega⟩
                            exact W.vret hx hb hr (fun t ht hW => ⟨⟨(nI 0, pl, fd + 1, va_up tg fd (row at_), va_up st fd xa_9, va_up ln fd xn_9, upd pa fd (nI (ar (dp - 1))), ar, dp, xa_9 + xn_9, tx1, xn_9, xa_9), rfl, hq9, by rw [ht]; exact hP9, va_K.moved hW.alike hK, hD9⟩, hS.F ht⟩) hS.2.2 dX4_value_320
                          · refine lv_aload_n hx hb dX4_value_303 rfl (lv_at hl 4 rfl) ?_
                            refine lv_bipush (v := (-5)) hx hb dX4_value_304 (by decide) ?_
                            refine lv_iload_n hx hb dX4_value_306 rfl (lv_at hl 3 rfl) ?_
                            refine cl_Vv (As := [.int (-5), .int (nI at_)]) (rest := []) (wr := []) ⟨hx, hb, hml, hown, hts⟩ (k_X4_fail l dC dI cA m0 m1 m2 m3 m4 m5 m6 m7 m8 m9 cd row sz1 nd (va_up tg fd (row at_)) (va_up st fd xa_9) (va_up ln fd xn_9) (upd pa fd (nI (ar (dp - 1)))) rd of ar dp xa_9 (nI 0) (fd + 1) pl tx1 ou wr op on dn (-5) (nI at_) _ ) (cwV 2 hts gX4_value_X4_fail rfl rfl rfl (by decide +kernel) ⟨Nat.le_of_ble_eq_true rfl, Nat.le_of_ble_eq_true rfl⟩) hK hP hD hS hA [0, 1, 2, 3, 4, 5, 6, 7, 8, 9] [] rfl rfl (by decide) (by decide) (by decide) (ci := 3) (q0 := 0) rfl rfl rfl rfl hl.1 rfl (Nat.le_of_ble_eq_true rfl) dX4_value_307 ⟨Nat.le_of_ble_eq_true rfl, Nat.le_of_ble_eq_true rfl⟩ (fun u_56 H locs hw_56 hP hD hS => ?_)
                            obtain ⟨rs2_56, pl2_56⟩ := u_56
                            have hP : va_P (dC, dI) vwCl (wM cA m0 m1 m2 m3 m4 m5 m6 m7 m8 m9 cd row sz1 nd (va_up tg fd (row at_)) (va_up st fd xa_9) (va_up ln fd xn_9) (upd pa fd (nI (ar (dp - 1)))) rd of ar dp xa_9 rs2_56 (fd + 1) pl2_56 tx1 ou wr op on dn) H := hP
                            have hD : va_D A (wM cA m0 m1 m2 m3 m4 m5 m6 m7 m8 m9 cd row sz1 nd (va_up tg fd (row at_)) (va_up st fd xa_9) (va_up ln fd xn_9) (upd pa fd (nI (ar (dp - 1)))) rd of ar dp xa_9 rs2_56 (fd + 1) pl2_56 tx1 ou wr op on dn) := hD
                            have hw_56 : rs2_56 = (-5) ∧ pl2_56 = (nI at_) := hw_56
                            obtain ⟨e0_56, e1_56⟩ := hw_56
                            have e0_56 := e0_56.symm
                            subst e0_56
                            have e1_56 := e1_56.symm
                            subst e1_56
                            refine lv_aload_n hx hb dX4_value_310 rfl (lv_at hl 4 rfl) ?_
                            refine lv_dup hx hb dX4_value_311 rfl ?_
                            refine va_get (D := (dC, dI)) (ci := 3) (v := .int (nI xa_9)) (C := RX4) (T := TX4) (N := 22) hx hb hts hinX4 hown hK hP 0 rfl rfl 12 (by decide) hf_72 (fun _ h9 => h9) rfl dX4_value_312 ?_
                            refine lv_iload_n hx hb dX4_value_315 rfl (lv_at hl 2 rfl) ?_
                            refine hl_iadd hx hb dX4_value_316 ?_
                            refine va_put (D := (dC, dI)) (ci := 3) (v := .int (nI (xa_9 + xn_9))) (ty := .int) (C := RX4) (T := TX4) (N := 22) hx hb hts hinX4 tyX4 tyX4_ok nmX4 hown hK hP hD hS 0 rfl rfl 12 (by decide) hf_72 (fun _ h9 => h9) rfl (by decide +kernel) rfl rfl (Nat.le_of_ble_eq_true rfl) dX4_value_317 (fun H locs hP hD hS => ?_)
                            have hP : va_P (dC, dI) vwCl (wM cA m0 m1 m2 m3 m4 m5 m6 m7 m8 m9 cd row sz1 nd (va_up tg fd (row at_)) (va_up st fd xa_9) (va_up ln fd xn_9) (upd pa fd (nI (ar (dp - 1)))) rd of ar dp (xa_9 + xn_9) (-5) (fd + 1) (nI at_) tx1 ou wr op on dn) H := hP
                            have hD : va_D A (wM cA m0 m1 m2 m3 m4 m5 m6 m7 m8 m9 cd row sz1 nd (va_up tg fd (row at_)) (va_up st fd xa_9) (va_up ln fd xn_9) (upd pa fd (nI (ar (dp - 1)))) rd of ar dp (xa_9 + xn_9) (-5) (fd + 1) (nI at_) tx1 ou wr op on dn) := hD
                            have hP9 : va_P (dC, dI) vwCl (vX4_value cA m0 m1 m2 m3 m4 m5 m6 m7 m8 m9 cd row sz1 nd tg st ln pa rd of ar dp at_ fd pl tx ou wr op on dn ((-5), (nI at_), fd + 1, va_up tg fd (row at_), va_up st fd xa_9, va_up ln fd xn_9, upd pa fd (nI (ar (dp - 1))), ar, dp, xa_9 + xn_9, tx1, 0, 0)) _ := hP
                            have hD9 : va_D A (vX4_value cA m0 m1 m2 m3 m4 m5 m6 m7 m8 m9 cd row sz1 nd tg st ln pa rd of ar dp at_ fd pl tx ou wr op on dn ((-5), (nI at_), fd + 1, va_up tg fd (row at_), va_up st fd xa_9, va_up ln fd xn_9, upd pa fd (nI (ar (dp - 1))), ar, dp, xa_9 + xn_9, tx1, 0, 0)) := hD
                            have hq9 : pX4_value m0 m1 m2 m3 m4 m5 m6 m7 m8 m9 cd row sz1 nd tg st ln pa rd of ar dp at_ fd pl tx ou wr op on dn ((-5), (nI at_), fd + 1, va_up tg fd (row at_), va_up st fd xa_9, va_up ln fd xn_9, upd pa fd (nI (ar (dp - 1))), ar, dp, xa_9 + xn_9, tx1, 0, 0) := ⟨Or.inr ⟨by unfold valS; rw [hidn]; dsimp only; rw [hle_9]; dsimp only; unfold conS; rw [if_neg (by omega), if_pos (by rw [← hcon]; assumption)], by decide⟩, up_lt htg (hrow _), up_lt hst (by omega), up_lt hln (by omega), har, hb1, by omega, by omega, by omega⟩
                            exact W.vret hx hb hr (fun t ht hW => ⟨⟨((-5), (nI at_), fd + 1, va_up tg fd (row at_), va_up st fd xa_9, va_up ln fd xn_9, upd pa fd (nI (ar (dp - 1))), ar, dp, xa_9 + xn_9, tx1, 0, 0), rfl, hq9, by rw [ht]; exact hP9, va_K.moved hW.alike hK, hD9⟩, hS.F ht⟩) hS.2.2 dX4_value_320
                        · refine lv_aload_n hx hb dX4_value_264 rfl (lv_at hl 4 rfl) ?_
                          refine va_get (D := (dC, dI)) (ci := 3) (v := .ref m7) (C := RX4) (T := TX4) (N := 22) hx hb hts hinX4 hown hK hP 0 rfl rfl 16 (by decide) hf_32 (fun _ h9 => h9) rfl dX4_value_265 ?_
                          refine lv_iload hx hb dX4_value_268 (lv_at hl 0 rfl) ?_
                          refine lv_aload_n hx hb dX4_value_270 rfl (lv_at hl 4 rfl) ?_
                          refine va_get (D := (dC, dI)) (ci := 3) (v := .ref m1) (C := RX4) (T := TX4) (N := 22) hx hb hts hinX4 hown hK hP 0 rfl rfl 1 (by decide) hf_7 (fun _ h9 => h9) rfl dX4_value_271 ?_
                          refine lv_aload_n hx hb dX4_value_274 rfl (lv_at hl 4 rfl) ?_
                          refine va_get (D := (dC, dI)) (ci := 3) (v := .int (nI xa_9)) (C := RX4) (T := TX4) (N := 22) hx hb hts hinX4 hown hK hP 0 rfl rfl 12 (by decide) hf_72 (fun _ h9 => h9) rfl dX4_value_275 ?_
                          refine lv_iload hx hb dX4_value_278 (lv_at hl 0 rfl) ?_
                          refine hl_iadd hx hb dX4_value_280 ?_
                          refine hl_iald hx hb hK hP 1 0 rfl rfl (by omega) (by decide) dX4_value_281 ?_
                          have hv_57 := hrow (xa_9 + k)
                          refine hl_iast hx hb hK hP hD hS 7 0 rfl rfl (by omega) (by decide) dX4_value_282 (fun H locs hP hD hS => ?_)
                          have hP : va_P (dC, dI) vwCl (wM cA m0 m1 m2 m3 m4 m5 m6 m7 m8 m9 cd row sz1 nd (va_up tg fd (row at_)) (va_up st fd xa_9) (va_up ln fd xn_9) (upd pa fd (nI (ar (dp - 1)))) rd of ar dp xa_9 (nI 0) (fd + 1) pl (va_up tx1 k (row (xa_9 + k))) ou wr op on dn) H := hP
                          have hD : va_D A (wM cA m0 m1 m2 m3 m4 m5 m6 m7 m8 m9 cd row sz1 nd (va_up tg fd (row at_)) (va_up st fd xa_9) (va_up ln fd xn_9) (upd pa fd (nI (ar (dp - 1)))) rd of ar dp xa_9 (nI 0) (fd + 1) pl (va_up tx1 k (row (xa_9 + k))) ou wr op on dn) := hD
                          refine lv_iinc (v := (nI (k + 1))) (lv' := [(4, .int (nI (k + 1))), (3, .int (nI sz1)), (2, .int (nI xn_9)), (1, .int (nI at_)), (0, .ref m0)]) hx hb dX4_value_283 hl (k := 0) rfl (nI_inc k 1) (by decide) rfl (fun ls hl => ?_)
                          refine lv_goto (tgt := 258) hx hb dX4_value_286 (by decide) ?_
                          exact ih_258 (k + 1) (va_up tx1 k (row (xa_9 + k))) (by omega) (by omega) (fun j hj => by by_cases e : j = k; rw [e, up_eq]; rw [up_ne _ _ e]; exact hc1 j (by omega)) (up_lt hb1 (hrow _)) _ _ _ hP hD hS (lv_sub hl [0, 1, 2, 3, 4] rfl)
                    exact lp_258 (xn_9 - 0 + 1) 0 tx (Nat.lt_succ_self _) (by omega) (fun j hj => absurd hj (Nat.not_lt_zero j)) htx _ _ _ hP hD hS (lv_sub hl [0, 1, 2, 3, 4] rfl)
                  · have h48 := c_50
                    refine lv_aload_n hx hb dX4_value_229 rfl (lv_at hl 3 rfl) ?_
                    refine va_get (D := (dC, dI)) (ci := 3) (v := .ref m6) (C := RX4) (T := TX4) (N := 22) hx hb hts hinX4 hown hK hP 0 rfl rfl 10 (by decide) hf_29 (fun _ h9 => h9) rfl dX4_value_230 ?_
                    refine lv_aload_n hx hb dX4_value_233 rfl (lv_at hl 3 rfl) ?_
                    refine va_get (D := (dC, dI)) (ci := 3) (v := .int (nI dp)) (C := RX4) (T := TX4) (N := 22) hx hb hts hinX4 hown hK hP 0 rfl rfl 11 (by decide) hf_61 (fun _ h9 => h9) rfl dX4_value_234 ?_
                    refine lv_aload_n hx hb dX4_value_237 rfl (lv_at hl 3 rfl) ?_
                    refine va_get (D := (dC, dI)) (ci := 3) (v := .int (nI (fd + 1))) (C := RX4) (T := TX4) (N := 22) hx hb hts hinX4 hown hK hP 0 rfl rfl 14 (by decide) hf_78 (fun _ h9 => h9) rfl dX4_value_238 ?_
                    refine lv_iconst (v := nI 1) hx hb dX4_value_241 (by decide) ?_
                    refine hl_isub hx hb (by omega) dX4_value_242 ?_
                    refine hl_top (show nI (fd + 1 - 1) = nI fd from rfl) ?_
                    refine hl_iast hx hb hK hP hD hS 6 0 rfl rfl (by omega) (by decide) dX4_value_243 (fun H locs hP hD hS => ?_)
                    have hP : va_P (dC, dI) vwCl (wM cA m0 m1 m2 m3 m4 m5 m6 m7 m8 m9 cd row sz1 nd (va_up tg fd (row at_)) (va_up st fd xa_9) (va_up ln fd xn_9) (upd pa fd (nI (ar (dp - 1)))) rd of (va_up ar dp fd) dp xa_9 (nI 0) (fd + 1) pl tx ou wr op on dn) H := hP
                    have hD : va_D A (wM cA m0 m1 m2 m3 m4 m5 m6 m7 m8 m9 cd row sz1 nd (va_up tg fd (row at_)) (va_up st fd xa_9) (va_up ln fd xn_9) (upd pa fd (nI (ar (dp - 1)))) rd of (va_up ar dp fd) dp xa_9 (nI 0) (fd + 1) pl tx ou wr op on dn) := hD
                    have hB_58 := up_lt har (k := dp) (x := fd) (by omega)
                    refine lv_aload_n hx hb dX4_value_244 rfl (lv_at hl 3 rfl) ?_
                    refine lv_dup hx hb dX4_value_245 rfl ?_
                    refine va_get (D := (dC, dI)) (ci := 3) (v := .int (nI dp)) (C := RX4) (T := TX4) (N := 22) hx hb hts hinX4 hown hK hP 0 rfl rfl 11 (by decide) hf_61 (fun _ h9 => h9) rfl dX4_value_246 ?_
                    refine lv_iconst (v := nI 1) hx hb dX4_value_249 (by decide) ?_
                    refine hl_iadd hx hb dX4_value_250 ?_
                    refine va_put (D := (dC, dI)) (ci := 3) (v := .int (nI (dp + 1))) (ty := .int) (C := RX4) (T := TX4) (N := 22) hx hb hts hinX4 tyX4 tyX4_ok nmX4 hown hK hP hD hS 0 rfl rfl 11 (by decide) hf_61 (fun _ h9 => h9) rfl (by decide +kernel) rfl rfl (Nat.le_of_ble_eq_true rfl) dX4_value_251 (fun H locs hP hD hS => ?_)
                    have hP : va_P (dC, dI) vwCl (wM cA m0 m1 m2 m3 m4 m5 m6 m7 m8 m9 cd row sz1 nd (va_up tg fd (row at_)) (va_up st fd xa_9) (va_up ln fd xn_9) (upd pa fd (nI (ar (dp - 1)))) rd of (va_up ar dp fd) (dp + 1) xa_9 (nI 0) (fd + 1) pl tx ou wr op on dn) H := hP
                    have hD : va_D A (wM cA m0 m1 m2 m3 m4 m5 m6 m7 m8 m9 cd row sz1 nd (va_up tg fd (row at_)) (va_up st fd xa_9) (va_up ln fd xn_9) (upd pa fd (nI (ar (dp - 1)))) rd of (va_up ar dp fd) (dp + 1) xa_9 (nI 0) (fd + 1) pl tx ou wr op on dn) := hD
                    have hP9 : va_P (dC, dI) vwCl (vX4_value cA m0 m1 m2 m3 m4 m5 m6 m7 m8 m9 cd row sz1 nd tg st ln pa rd of ar dp at_ fd pl tx ou wr op on dn (nI 0, pl, fd + 1, va_up tg fd (row at_), va_up st fd xa_9, va_up ln fd xn_9, upd pa fd (nI (ar (dp - 1))), va_up ar dp fd, dp + 1, xa_9, tx, xn_9, xa_9)) _ := hP
                    have hD9 : va_D A (vX4_value cA m0 m1 m2 m3 m4 m5 m6 m7 m8 m9 cd row sz1 nd tg st ln pa rd of ar dp at_ fd pl tx ou wr op on dn (nI 0, pl, fd + 1, va_up tg fd (row at_), va_up st fd xa_9, va_up ln fd xn_9, upd pa fd (nI (ar (dp - 1))), va_up ar dp fd, dp + 1, xa_9, tx, xn_9, xa_9)) := hD
                    have hq9 : pX4_value m0 m1 m2 m3 m4 m5 m6 m7 m8 m9 cd row sz1 nd tg st ln pa rd of ar dp at_ fd pl tx ou wr op on dn (nI 0, pl, fd + 1, va_up tg fd (row at_), va_up st fd xa_9, va_up ln fd xn_9, upd pa fd (nI (ar (dp - 1))), va_up ar dp fd, dp + 1, xa_9, tx, xn_9, xa_9) := ⟨Or.inl ⟨by unfold valS; rw [hidn]; dsimp only; rw [hle_9]; dsimp only; unfold conS; rw [if_neg (by omega), if_neg (fun h => h (by unfold okC; simp [h48]))], rfl, rfl, rfl, rfl, rfl, rfl, (by first | (exfalso; omega) | (unfold parI; rw [if_pos (by assumption)]) | (unfold parI; rw [if_neg (by assumption)])), (by unfold nxA; rw [if_pos h48]), (by unfold nxL; rw [if_pos h48]), (by unfold nxP; rw [if_pos h48])⟩, up_lt htg (hrow _), up_lt hst (by omega), up_lt hln (by omega), up_lt har (by omega), htx, by omega, by omega, by omega⟩
                    exact W.vret hx hb hr (fun t ht hW => ⟨⟨(nI 0, pl, fd + 1, va_up tg fd (row at_), va_up st fd xa_9, va_up ln fd xn_9, upd pa fd (nI (ar (dp - 1))), va_up ar dp fd, dp + 1, xa_9, tx, xn_9, xa_9), rfl, hq9, by rw [ht]; exact hP9, va_K.moved hW.alike hK, hD9⟩, hS.F ht⟩) hS.2.2 dX4_value_254
                · refine lv_iconst (v := (-1)) hx hb dX4_value_192 (by decide) ?_
                  refine lv_goto (tgt := 207) hx hb dX4_value_193 (by decide) ?_
                  refine hl_iastI hx hb hK hP hD hS 5 0 rfl rfl (by omega) (by decide) dX4_value_207 (fun H locs hP hD hS => ?_)
                  have hP : va_P (dC, dI) vwCl (wM cA m0 m1 m2 m3 m4 m5 m6 m7 m8 m9 cd row sz1 nd (va_up tg fd (row at_)) (va_up st fd xa_9) (va_up ln fd xn_9) (upd pa fd (-1)) rd of ar dp xa_9 (nI 0) fd pl tx ou wr op on dn) H := hP
                  have hD : va_D A (wM cA m0 m1 m2 m3 m4 m5 m6 m7 m8 m9 cd row sz1 nd (va_up tg fd (row at_)) (va_up st fd xa_9) (va_up ln fd xn_9) (upd pa fd (-1)) rd of ar dp xa_9 (nI 0) fd pl tx ou wr op on dn) := hD
                  refine lv_aload_n hx hb dX4_value_208 rfl (lv_at hl 3 rfl) ?_
                  refine lv_dup hx hb dX4_value_209 rfl ?_
                  refine va_get (D := (dC, dI)) (ci := 3) (v := .int (nI fd)) (C := RX4) (T := TX4) (N := 22) hx hb hts hinX4 hown hK hP 0 rfl rfl 14 (by decide) hf_78 (fun _ h9 => h9) rfl dX4_value_210 ?_
                  refine lv_iconst (v := nI 1) hx hb dX4_value_213 (by decide) ?_
                  refine hl_iadd hx hb dX4_value_214 ?_
                  refine va_put (D := (dC, dI)) (ci := 3) (v := .int (nI (fd + 1))) (ty := .int) (C := RX4) (T := TX4) (N := 22) hx hb hts hinX4 tyX4 tyX4_ok nmX4 hown hK hP hD hS 0 rfl rfl 14 (by decide) hf_78 (fun _ h9 => h9) rfl (by decide +kernel) rfl rfl (Nat.le_of_ble_eq_true rfl) dX4_value_215 (fun H locs hP hD hS => ?_)
                  have hP : va_P (dC, dI) vwCl (wM cA m0 m1 m2 m3 m4 m5 m6 m7 m8 m9 cd row sz1 nd (va_up tg fd (row at_)) (va_up st fd xa_9) (va_up ln fd xn_9) (upd pa fd (-1)) rd of ar dp xa_9 (nI 0) (fd + 1) pl tx ou wr op on dn) H := hP
                  have hD : va_D A (wM cA m0 m1 m2 m3 m4 m5 m6 m7 m8 m9 cd row sz1 nd (va_up tg fd (row at_)) (va_up st fd xa_9) (va_up ln fd xn_9) (upd pa fd (-1)) rd of ar dp xa_9 (nI 0) (fd + 1) pl tx ou wr op on dn) := hD
                  refine lv_aload_n hx hb dX4_value_218 rfl (lv_at hl 3 rfl) ?_
                  refine va_get (D := (dC, dI)) (ci := 3) (v := .ref m1) (C := RX4) (T := TX4) (N := 22) hx hb hts hinX4 hown hK hP 0 rfl rfl 1 (by decide) hf_7 (fun _ h9 => h9) rfl dX4_value_219 ?_
                  refine lv_iload_n hx hb dX4_value_222 rfl (lv_at hl 2 rfl) ?_
                  refine hl_iald hx hb hK hP 1 0 rfl rfl (by omega) (by decide) dX4_value_223 ?_
                  have hv_59 := hrow at_
                  refine lv_bipush (v := nI 48) hx hb dX4_value_224 (by decide) ?_
                  refine hl_icmp_ne (tgt := 255) hx hb dX4_value_226 (by decide) (by omega) (by omega) (fun c_60 => ?_) (fun c_60 => ?_)
                  · have h48 := c_60
                    refine lv_iconst (v := nI 0) hx hb dX4_value_255 (by decide) ?_
                    refine lv_istore (lv' := [(4, .int (nI 0)), (3, .int (nI sz1)), (2, .int (nI xn_9)), (1, .int (nI at_)), (0, .ref m0)]) hx hb dX4_value_256 hl (by decide) rfl (fun ls hl => ?_)
                    have lp_258 : ∀ (nf : Nat) (k : Nat) (tx1 : Nat → Nat), xn_9 - k < nf → (k ≤ xn_9) → (∀ j, j < k → tx1 j = row (xa_9 + j)) → (∀ j, tx1 j < 256) → ∀ (H : Heap) (locs : List Loc) (ls : Array Slot), va_P (dC, dI) vwCl (wM cA m0 m1 m2 m3 m4 m5 m6 m7 m8 m9 cd row sz1 nd (va_up tg fd (row at_)) (va_up st fd xa_9) (va_up ln fd xn_9) (upd pa fd (-1)) rd of ar dp xa_9 (nI 0) (fd + 1) pl tx1 ou wr op on dn) H → va_D A (wM cA m0 m1 m2 m3 m4 m5 m6 m7 m8 m9 cd row sz1 nd (va_up tg fd (row at_)) (va_up st fd xa_9) (va_up ln fd xn_9) (upd pa fd (-1)) rd of ar dp xa_9 (nI 0) (fd + 1) pl tx1 ou wr op on dn) → va_S A s.heap H locs → lv_has ls 5 [(4, .int (nI k)), (3, .int (nI sz1)), (2, .int (nI xn_9)), (1, .int (nI at_)), (0, .ref m0)] → W p l e (headSpec wsX4_value ({ frames := 3, cells := 0, slots := 0, locals := 71 } : Room)).room s m ([.ref m0] : List Value).toArray below meth c H locs 0 0 (MQ below (qX4_value dC dI cA A m0 m1 m2 m3 m4 m5 m6 m7 m8 m9 cd row sz1 nd tg st ln pa rd of ar dp at_ fd pl tx ou wr op on dn) ([.ref m0] : List Value).toArray s 0 0 A) (F0 m 258 ls []) := by
                      intro nf
                      induction nf with
                      | zero =>
                        intro k tx1 hm
                        exact absurd hm (Nat.not_lt_zero _)
                      | succ nf ih_258 =>
                        intro k tx1 hm hk hc1 hb1 H locs ls hP hD hS hl
                        refine lv_iload hx hb dX4_value_258 (lv_at hl 0 rfl) ?_
                        refine lv_iload_n hx hb dX4_value_260 rfl (lv_at hl 2 rfl) ?_
                        refine hl_icmp_ge (tgt := 289) hx hb dX4_value_261 (by decide) (by omega) (by omega) (fun c_62 => ?_) (fun c_62 => ?_)
                        · have hcon : okC (row at_) tx1 0 xn_9 = okC (row at_) row xa_9 xn_9 := okC_eq (fun j hj => by rw [Nat.zero_add]; exact hc1 j (by omega))
                          refine lv_aload_n hx hb dX4_value_289 rfl (lv_at hl 4 rfl) ?_
                          refine lv_aload_n hx hb dX4_value_290 rfl (lv_at hl 4 rfl) ?_
                          refine va_get (D := (dC, dI)) (ci := 3) (v := .ref m1) (C := RX4) (T := TX4) (N := 22) hx hb hts hinX4 hown hK hP 0 rfl rfl 1 (by decide) hf_7 (fun _ h9 => h9) rfl dX4_value_291 ?_
                          refine lv_iload_n hx hb dX4_value_294 rfl (lv_at hl 3 rfl) ?_
                          refine hl_iald hx hb hK hP 1 0 rfl rfl (by omega) (by decide) dX4_value_295 ?_
                          have hv_63 := hrow at_
                          refine lv_iload_n hx hb dX4_value_296 rfl (lv_at hl 2 rfl) ?_
                          refine cl_Vi (As := [.int (nI (row at_)), .int (nI xn_9)]) (rest := []) (wr := []) ⟨hx, hb, hml, hown, hts⟩ (k_X4_isRight l dC dI cA m0 m1 m2 m3 m4 m5 m6 m7 m8 m9 cd row sz1 nd (va_up tg fd (row at_)) (va_up st fd xa_9) (va_up ln fd xn_9) (upd pa fd (-1)) rd of ar dp xa_9 (nI 0) (fd + 1) pl tx1 ou wr op on dn (row at_) xn_9 _ hb1 (by omega) (by omega)) (cwV 2 hts gX4_value_X4_isRight rfl rfl rfl (by decide +kernel) ⟨Nat.le_of_ble_eq_true rfl, Nat.le_of_ble_eq_true rfl⟩) hK hP hD hS hA [0, 1, 2, 3, 4, 5, 6, 7, 8, 9] [] rfl rfl (by decide) (by decide) (by decide) (ci := 3) (q0 := 0) rfl rfl rfl rfl hl.1 rfl (Nat.le_of_ble_eq_true rfl) dX4_value_297 ⟨Nat.le_of_ble_eq_true rfl, Nat.le_of_ble_eq_true rfl⟩ (fun r_64 u_64 H locs hw_64 hP hD hS => ?_)
                          have hP : va_P (dC, dI) vwCl (wM cA m0 m1 m2 m3 m4 m5 m6 m7 m8 m9 cd row sz1 nd (va_up tg fd (row at_)) (va_up st fd xa_9) (va_up ln fd xn_9) (upd pa fd (-1)) rd of ar dp xa_9 (nI 0) (fd + 1) pl tx1 ou wr op on dn) H := hP
                          have hD : va_D A (wM cA m0 m1 m2 m3 m4 m5 m6 m7 m8 m9 cd row sz1 nd (va_up tg fd (row at_)) (va_up st fd xa_9) (va_up ln fd xn_9) (upd pa fd (-1)) rd of ar dp xa_9 (nI 0) (fd + 1) pl tx1 ou wr op on dn) := hD
                          have hw_64 : r_64 = if okC (row at_) tx1 0 xn_9 = true then 1 else 0 := hw_64
                          have hw_64 := hw_64.symm
                          subst hw_64
                          refine hl_ifb_ne (tgt := 310) hx hb dX4_value_300 (by decide) (fun c_65 => ?_) (fun c_65 => ?_)
                          · refine lv_aload_n hx hb dX4_value_310 rfl (lv_at hl 4 rfl) ?_
                            refine lv_dup hx hb dX4_value_311 rfl ?_
                            refine va_get (D := (dC, dI)) (ci := 3) (v := .int (nI xa_9)) (C := RX4) (T := TX4) (N := 22) hx hb hts hinX4 hown hK hP 0 rfl rfl 12 (by decide) hf_72 (fun _ h9 => h9) rfl dX4_value_312 ?_
                            refine lv_iload_n hx hb dX4_value_315 rfl (lv_at hl 2 rfl) ?_
                            refine hl_iadd hx hb dX4_value_316 ?_
                            refine va_put (D := (dC, dI)) (ci := 3) (v := .int (nI (xa_9 + xn_9))) (ty := .int) (C := RX4) (T := TX4) (N := 22) hx hb hts hinX4 tyX4 tyX4_ok nmX4 hown hK hP hD hS 0 rfl rfl 12 (by decide) hf_72 (fun _ h9 => h9) rfl (by decide +kernel) rfl rfl (Nat.le_of_ble_eq_true rfl) dX4_value_317 (fun H locs hP hD hS => ?_)
                            have hP : va_P (dC, dI) vwCl (wM cA m0 m1 m2 m3 m4 m5 m6 m7 m8 m9 cd row sz1 nd (va_up tg fd (row at_)) (va_up st fd xa_9) (va_up ln fd xn_9) (upd pa fd (-1)) rd of ar dp (xa_9 + xn_9) (nI 0) (fd + 1) pl tx1 ou wr op on dn) H := hP
                            have hD : va_D A (wM cA m0 m1 m2 m3 m4 m5 m6 m7 m8 m9 cd row sz1 nd (va_up tg fd (row at_)) (va_up st fd xa_9) (va_up ln fd xn_9) (upd pa fd (-1)) rd of ar dp (xa_9 + xn_9) (nI 0) (fd + 1) pl tx1 ou wr op on dn) := hD
                            have hP9 : va_P (dC, dI) vwCl (vX4_value cA m0 m1 m2 m3 m4 m5 m6 m7 m8 m9 cd row sz1 nd tg st ln pa rd of ar dp at_ fd pl tx ou wr op on dn (nI 0, pl, fd + 1, va_up tg fd (row at_), va_up st fd xa_9, va_up ln fd xn_9, upd pa fd (-1), ar, dp, xa_9 + xn_9, tx1, xn_9, xa_9)) _ := hP
                            have hD9 : va_D A (vX4_value cA m0 m1 m2 m3 m4 m5 m6 m7 m8 m9 cd row sz1 nd tg st ln pa rd of ar dp at_ fd pl tx ou wr op on dn (nI 0, pl, fd + 1, va_up tg fd (row at_), va_up st fd xa_9, va_up ln fd xn_9, upd pa fd (-1), ar, dp, xa_9 + xn_9, tx1, xn_9, xa_9)) := hD
                            have hq9 : pX4_value m0 m1 m2 m3 m4 m5 m6 m7 m8 m9 cd row sz1 nd tg st ln pa rd of ar dp at_ fd pl tx ou wr op on dn (nI 0, pl, fd + 1, va_up tg fd (row at_), va_up st fd xa_9, va_up ln fd xn_9, upd pa fd (-1), ar, dp, xa_9 + xn_9, tx1, xn_9, xa_9) := ⟨Or.inl ⟨by unfold valS; rw [hidn]; dsimp only; rw [hle_9]; dsimp only; unfold conS; rw [if_neg (by omega), if_neg (fun h => h (by rw [← hcon]; assumption))], rfl, rfl, rfl, rfl, rfl, rfl, (by first | (exfalso; omega) | (unfold parI; rw [if_pos (by assumption)]) | (unfold parI; rw [if_neg (by assumption)])), (by unfold nxA; rw [if_neg h48]), (by unfold nxL; rw [if_neg h48]), (by unfold nxP; rw [if_neg h48])⟩, up_lt htg (hrow _), up_lt hst (by omega), up_lt hln (by omega), har, hb1, by omega, by omega, by omega⟩
                            exact W.vret hx hb hr (fun t ht hW => ⟨⟨(nI 0, pl, fd + 1, va_up tg fd (row at_), va_up st fd xa_9, va_up ln fd xn_9, upd pa fd (-1), ar, dp, xa_9 + xn_9, tx1, xn_9, xa_9), rfl, hq9, by rw [ht]; exact hP9, va_K.moved hW.alike hK, hD9⟩, hS.F ht⟩) hS.2.2 dX4_value_320
                          · refine lv_aload_n hx hb dX4_value_303 rfl (lv_at hl 4 rfl) ?_
                            refine lv_bipush (v := (-5)) hx hb dX4_value_304 (by decide) ?_
                            refine lv_iload_n hx hb dX4_value_306 rfl (lv_at hl 3 rfl) ?_
                            refine cl_Vv (As := [.int (-5), .int (nI at_)]) (rest := []) (wr := []) ⟨hx, hb, hml, hown, hts⟩ (k_X4_fail l dC dI cA m0 m1 m2 m3 m4 m5 m6 m7 m8 m9 cd row sz1 nd (va_up tg fd (row at_)) (va_up st fd xa_9) (va_up ln fd xn_9) (upd pa fd (-1)) rd of ar dp xa_9 (nI 0) (fd + 1) pl tx1 ou wr op on dn (-5) (nI at_) _ ) (cwV 2 hts gX4_value_X4_fail rfl rfl rfl (by decide +kernel) ⟨Nat.le_of_ble_eq_true rfl, Nat.le_of_ble_eq_true rfl⟩) hK hP hD hS hA [0, 1, 2, 3, 4, 5, 6, 7, 8, 9] [] rfl rfl (by decide) (by decide) (by decide) (ci := 3) (q0 := 0) rfl rfl rfl rfl hl.1 rfl (Nat.le_of_ble_eq_true rfl) dX4_value_307 ⟨Nat.le_of_ble_eq_true rfl, Nat.le_of_ble_eq_true rfl⟩ (fun u_66 H locs hw_66 hP hD hS => ?_)
                            obtain ⟨rs2_66, pl2_66⟩ := u_66
                            have hP : va_P (dC, dI) vwCl (wM cA m0 m1 m2 m3 m4 m5 m6 m7 m8 m9 cd row sz1 nd (va_up tg fd (row at_)) (va_up st fd xa_9) (va_up ln fd xn_9) (upd pa fd (-1)) rd of ar dp xa_9 rs2_66 (fd + 1) pl2_66 tx1 ou wr op on dn) H := hP
                            have hD : va_D A (wM cA m0 m1 m2 m3 m4 m5 m6 m7 m8 m9 cd row sz1 nd (va_up tg fd (row at_)) (va_up st fd xa_9) (va_up ln fd xn_9) (upd pa fd (-1)) rd of ar dp xa_9 rs2_66 (fd + 1) pl2_66 tx1 ou wr op on dn) := hD
                            have hw_66 : rs2_66 = (-5) ∧ pl2_66 = (nI at_) := hw_66
                            obtain ⟨e0_66, e1_66⟩ := hw_66
                            have e0_66 := e0_66.symm
                            subst e0_66
                            have e1_66 := e1_66.symm
                            subst e1_66
                            refine lv_aload_n hx hb dX4_value_310 rfl (lv_at hl 4 rfl) ?_
                            refine lv_dup hx hb dX4_value_311 rfl ?_
                            refine va_get (D := (dC, dI)) (ci := 3) (v := .int (nI xa_9)) (C := RX4) (T := TX4) (N := 22) hx hb hts hinX4 hown hK hP 0 rfl rfl 12 (by decide) hf_72 (fun _ h9 => h9) rfl dX4_value_312 ?_
                            refine lv_iload_n hx hb dX4_value_315 rfl (lv_at hl 2 rfl) ?_
                            refine hl_iadd hx hb dX4_value_316 ?_
                            refine va_put (D := (dC, dI)) (ci := 3) (v := .int (nI (xa_9 + xn_9))) (ty := .int) (C := RX4) (T := TX4) (N := 22) hx hb hts hinX4 tyX4 tyX4_ok nmX4 hown hK hP hD hS 0 rfl rfl 12 (by decide) hf_72 (fun _ h9 => h9) rfl (by decide +kernel) rfl rfl (Nat.le_of_ble_eq_true rfl) dX4_value_317 (fun H locs hP hD hS => ?_)
                            have hP : va_P (dC, dI) vwCl (wM cA m0 m1 m2 m3 m4 m5 m6 m7 m8 m9 cd row sz1 nd (va_up tg fd (row at_)) (va_up st fd xa_9) (va_up ln fd xn_9) (upd pa fd (-1)) rd of ar dp (xa_9 + xn_9) (-5) (fd + 1) (nI at_) tx1 ou wr op on dn) H := hP
                            have hD : va_D A (wM cA m0 m1 m2 m3 m4 m5 m6 m7 m8 m9 cd row sz1 nd (va_up tg fd (row at_)) (va_up st fd xa_9) (va_up ln fd xn_9) (upd pa fd (-1)) rd of ar dp (xa_9 + xn_9) (-5) (fd + 1) (nI at_) tx1 ou wr op on dn) := hD
                            have hP9 : va_P (dC, dI) vwCl (vX4_value cA m0 m1 m2 m3 m4 m5 m6 m7 m8 m9 cd row sz1 nd tg st ln pa rd of ar dp at_ fd pl tx ou wr op on dn ((-5), (nI at_), fd + 1, va_up tg fd (row at_), va_up st fd xa_9, va_up ln fd xn_9, upd pa fd (-1), ar, dp, xa_9 + xn_9, tx1, 0, 0)) _ := hP
                            have hD9 : va_D A (vX4_value cA m0 m1 m2 m3 m4 m5 m6 m7 m8 m9 cd row sz1 nd tg st ln pa rd of ar dp at_ fd pl tx ou wr op on dn ((-5), (nI at_), fd + 1, va_up tg fd (row at_), va_up st fd xa_9, va_up ln fd xn_9, upd pa fd (-1), ar, dp, xa_9 + xn_9, tx1, 0, 0)) := hD
                            have hq9 : pX4_value m0 m1 m2 m3 m4 m5 m6 m7 m8 m9 cd row sz1 nd tg st ln pa rd of ar dp at_ fd pl tx ou wr op on dn ((-5), (nI at_), fd + 1, va_up tg fd (row at_), va_up st fd xa_9, va_up ln fd xn_9, upd pa fd (-1), ar, dp, xa_9 + xn_9, tx1, 0, 0) := ⟨Or.inr ⟨by unfold valS; rw [hidn]; dsimp only; rw [hle_9]; dsimp only; unfold conS; rw [if_neg (by omega), if_pos (by rw [← hcon]; assumption)], by decide⟩, up_lt htg (hrow _), up_lt hst (by omega), up_lt hln (by omega), har, hb1, by omega, by omega, by omega⟩
                            exact W.vret hx hb hr (fun t ht hW => ⟨⟨((-5), (nI at_), fd + 1, va_up tg fd (row at_), va_up st fd xa_9, va_up ln fd xn_9, upd pa fd (-1), ar, dp, xa_9 + xn_9, tx1, 0, 0), rfl, hq9, by rw [ht]; exact hP9, va_K.moved hW.alike hK, hD9⟩, hS.F ht⟩) hS.2.2 dX4_value_320
                        · refine lv_aload_n hx hb dX4_value_264 rfl (lv_at hl 4 rfl) ?_
                          refine va_get (D := (dC, dI)) (ci := 3) (v := .ref m7) (C := RX4) (T := TX4) (N := 22) hx hb hts hinX4 hown hK hP 0 rfl rfl 16 (by decide) hf_32 (fun _ h9 => h9) rfl dX4_value_265 ?_
                          refine lv_iload hx hb dX4_value_268 (lv_at hl 0 rfl) ?_
                          refine lv_aload_n hx hb dX4_value_270 rfl (lv_at hl 4 rfl) ?_
                          refine va_get (D := (dC, dI)) (ci := 3) (v := .ref m1) (C := RX4) (T := TX4) (N := 22) hx hb hts hinX4 hown hK hP 0 rfl rfl 1 (by decide) hf_7 (fun _ h9 => h9) rfl dX4_value_271 ?_
                          refine lv_aload_n hx hb dX4_value_274 rfl (lv_at hl 4 rfl) ?_
                          refine va_get (D := (dC, dI)) (ci := 3) (v := .int (nI xa_9)) (C := RX4) (T := TX4) (N := 22) hx hb hts hinX4 hown hK hP 0 rfl rfl 12 (by decide) hf_72 (fun _ h9 => h9) rfl dX4_value_275 ?_
                          refine lv_iload hx hb dX4_value_278 (lv_at hl 0 rfl) ?_
                          refine hl_iadd hx hb dX4_value_280 ?_
                          refine hl_iald hx hb hK hP 1 0 rfl rfl (by omega) (by decide) dX4_value_281 ?_
                          have hv_67 := hrow (xa_9 + k)
                          refine hl_iast hx hb hK hP hD hS 7 0 rfl rfl (by omega) (by decide) dX4_value_282 (fun H locs hP hD hS => ?_)
                          have hP : va_P (dC, dI) vwCl (wM cA m0 m1 m2 m3 m4 m5 m6 m7 m8 m9 cd row sz1 nd (va_up tg fd (row at_)) (va_up st fd xa_9) (va_up ln fd xn_9) (upd pa fd (-1)) rd of ar dp xa_9 (nI 0) (fd + 1) pl (va_up tx1 k (row (xa_9 + k))) ou wr op on dn) H := hP
                          have hD : va_D A (wM cA m0 m1 m2 m3 m4 m5 m6 m7 m8 m9 cd row sz1 nd (va_up tg fd (row at_)) (va_up st fd xa_9) (va_up ln fd xn_9) (upd pa fd (-1)) rd of ar dp xa_9 (nI 0) (fd + 1) pl (va_up tx1 k (row (xa_9 + k))) ou wr op on dn) := hD
                          refine lv_iinc (v := (nI (k + 1))) (lv' := [(4, .int (nI (k + 1))), (3, .int (nI sz1)), (2, .int (nI xn_9)), (1, .int (nI at_)), (0, .ref m0)]) hx hb dX4_value_283 hl (k := 0) rfl (nI_inc k 1) (by decide) rfl (fun ls hl => ?_)
                          refine lv_goto (tgt := 258) hx hb dX4_value_286 (by decide) ?_
                          exact ih_258 (k + 1) (va_up tx1 k (row (xa_9 + k))) (by omega) (by omega) (fun j hj => by by_cases e : j = k; rw [e, up_eq]; rw [up_ne _ _ e]; exact hc1 j (by omega)) (up_lt hb1 (hrow _)) _ _ _ hP hD hS (lv_sub hl [0, 1, 2, 3, 4] rfl)
                    exact lp_258 (xn_9 - 0 + 1) 0 tx (Nat.lt_succ_self _) (by omega) (fun j hj => absurd hj (Nat.not_lt_zero j)) htx _ _ _ hP hD hS (lv_sub hl [0, 1, 2, 3, 4] rfl)
                  · have h48 := c_60
                    refine lv_aload_n hx hb dX4_value_229 rfl (lv_at hl 3 rfl) ?_
                    refine va_get (D := (dC, dI)) (ci := 3) (v := .ref m6) (C := RX4) (T := TX4) (N := 22) hx hb hts hinX4 hown hK hP 0 rfl rfl 10 (by decide) hf_29 (fun _ h9 => h9) rfl dX4_value_230 ?_
                    refine lv_aload_n hx hb dX4_value_233 rfl (lv_at hl 3 rfl) ?_
                    refine va_get (D := (dC, dI)) (ci := 3) (v := .int (nI dp)) (C := RX4) (T := TX4) (N := 22) hx hb hts hinX4 hown hK hP 0 rfl rfl 11 (by decide) hf_61 (fun _ h9 => h9) rfl dX4_value_234 ?_
                    refine lv_aload_n hx hb dX4_value_237 rfl (lv_at hl 3 rfl) ?_
                    refine va_get (D := (dC, dI)) (ci := 3) (v := .int (nI (fd + 1))) (C := RX4) (T := TX4) (N := 22) hx hb hts hinX4 hown hK hP 0 rfl rfl 14 (by decide) hf_78 (fun _ h9 => h9) rfl dX4_value_238 ?_
                    refine lv_iconst (v := nI 1) hx hb dX4_value_241 (by decide) ?_
                    refine hl_isub hx hb (by omega) dX4_value_242 ?_
                    refine hl_top (show nI (fd + 1 - 1) = nI fd from rfl) ?_
                    refine hl_iast hx hb hK hP hD hS 6 0 rfl rfl (by omega) (by decide) dX4_value_243 (fun H locs hP hD hS => ?_)
                    have hP : va_P (dC, dI) vwCl (wM cA m0 m1 m2 m3 m4 m5 m6 m7 m8 m9 cd row sz1 nd (va_up tg fd (row at_)) (va_up st fd xa_9) (va_up ln fd xn_9) (upd pa fd (-1)) rd of (va_up ar dp fd) dp xa_9 (nI 0) (fd + 1) pl tx ou wr op on dn) H := hP
                    have hD : va_D A (wM cA m0 m1 m2 m3 m4 m5 m6 m7 m8 m9 cd row sz1 nd (va_up tg fd (row at_)) (va_up st fd xa_9) (va_up ln fd xn_9) (upd pa fd (-1)) rd of (va_up ar dp fd) dp xa_9 (nI 0) (fd + 1) pl tx ou wr op on dn) := hD
                    have hB_68 := up_lt har (k := dp) (x := fd) (by omega)
                    refine lv_aload_n hx hb dX4_value_244 rfl (lv_at hl 3 rfl) ?_
                    refine lv_dup hx hb dX4_value_245 rfl ?_
                    refine va_get (D := (dC, dI)) (ci := 3) (v := .int (nI dp)) (C := RX4) (T := TX4) (N := 22) hx hb hts hinX4 hown hK hP 0 rfl rfl 11 (by decide) hf_61 (fun _ h9 => h9) rfl dX4_value_246 ?_
                    refine lv_iconst (v := nI 1) hx hb dX4_value_249 (by decide) ?_
                    refine hl_iadd hx hb dX4_value_250 ?_
                    refine va_put (D := (dC, dI)) (ci := 3) (v := .int (nI (dp + 1))) (ty := .int) (C := RX4) (T := TX4) (N := 22) hx hb hts hinX4 tyX4 tyX4_ok nmX4 hown hK hP hD hS 0 rfl rfl 11 (by decide) hf_61 (fun _ h9 => h9) rfl (by decide +kernel) rfl rfl (Nat.le_of_ble_eq_true rfl) dX4_value_251 (fun H locs hP hD hS => ?_)
                    have hP : va_P (dC, dI) vwCl (wM cA m0 m1 m2 m3 m4 m5 m6 m7 m8 m9 cd row sz1 nd (va_up tg fd (row at_)) (va_up st fd xa_9) (va_up ln fd xn_9) (upd pa fd (-1)) rd of (va_up ar dp fd) (dp + 1) xa_9 (nI 0) (fd + 1) pl tx ou wr op on dn) H := hP
                    have hD : va_D A (wM cA m0 m1 m2 m3 m4 m5 m6 m7 m8 m9 cd row sz1 nd (va_up tg fd (row at_)) (va_up st fd xa_9) (va_up ln fd xn_9) (upd pa fd (-1)) rd of (va_up ar dp fd) (dp + 1) xa_9 (nI 0) (fd + 1) pl tx ou wr op on dn) := hD
                    have hP9 : va_P (dC, dI) vwCl (vX4_value cA m0 m1 m2 m3 m4 m5 m6 m7 m8 m9 cd row sz1 nd tg st ln pa rd of ar dp at_ fd pl tx ou wr op on dn (nI 0, pl, fd + 1, va_up tg fd (row at_), va_up st fd xa_9, va_up ln fd xn_9, upd pa fd (-1), va_up ar dp fd, dp + 1, xa_9, tx, xn_9, xa_9)) _ := hP
                    have hD9 : va_D A (vX4_value cA m0 m1 m2 m3 m4 m5 m6 m7 m8 m9 cd row sz1 nd tg st ln pa rd of ar dp at_ fd pl tx ou wr op on dn (nI 0, pl, fd + 1, va_up tg fd (row at_), va_up st fd xa_9, va_up ln fd xn_9, upd pa fd (-1), va_up ar dp fd, dp + 1, xa_9, tx, xn_9, xa_9)) := hD
                    have hq9 : pX4_value m0 m1 m2 m3 m4 m5 m6 m7 m8 m9 cd row sz1 nd tg st ln pa rd of ar dp at_ fd pl tx ou wr op on dn (nI 0, pl, fd + 1, va_up tg fd (row at_), va_up st fd xa_9, va_up ln fd xn_9, upd pa fd (-1), va_up ar dp fd, dp + 1, xa_9, tx, xn_9, xa_9) := ⟨Or.inl ⟨by unfold valS; rw [hidn]; dsimp only; rw [hle_9]; dsimp only; unfold conS; rw [if_neg (by omega), if_neg (fun h => h (by unfold okC; simp [h48]))], rfl, rfl, rfl, rfl, rfl, rfl, (by first | (exfalso; omega) | (unfold parI; rw [if_pos (by assumption)]) | (unfold parI; rw [if_neg (by assumption)])), (by unfold nxA; rw [if_pos h48]), (by unfold nxL; rw [if_pos h48]), (by unfold nxP; rw [if_pos h48])⟩, up_lt htg (hrow _), up_lt hst (by omega), up_lt hln (by omega), up_lt har (by omega), htx, by omega, by omega, by omega⟩
                    exact W.vret hx hb hr (fun t ht hW => ⟨⟨(nI 0, pl, fd + 1, va_up tg fd (row at_), va_up st fd xa_9, va_up ln fd xn_9, upd pa fd (-1), va_up ar dp fd, dp + 1, xa_9, tx, xn_9, xa_9), rfl, hq9, by rw [ht]; exact hP9, va_K.moved hW.alike hK, hD9⟩, hS.F ht⟩) hS.2.2 dX4_value_254
              · refine lv_aload_n hx hb dX4_value_131 rfl (lv_at hl 3 rfl) ?_
                refine lv_bipush (v := (-4)) hx hb dX4_value_132 (by decide) ?_
                refine lv_iload_n hx hb dX4_value_134 rfl (lv_at hl 2 rfl) ?_
                refine cl_Vv (As := [.int (-4), .int (nI at_)]) (rest := []) (wr := []) ⟨hx, hb, hml, hown, hts⟩ (k_X4_fail l dC dI cA m0 m1 m2 m3 m4 m5 m6 m7 m8 m9 cd row sz1 nd tg st ln pa rd of ar dp xa_9 (nI 0) fd pl tx ou wr op on dn (-4) (nI at_) _ ) (cwV 2 hts gX4_value_X4_fail rfl rfl rfl (by decide +kernel) ⟨Nat.le_of_ble_eq_true rfl, Nat.le_of_ble_eq_true rfl⟩) hK hP hD hS hA [0, 1, 2, 3, 4, 5, 6, 7, 8, 9] [] rfl rfl (by decide) (by decide) (by decide) (ci := 3) (q0 := 0) rfl rfl rfl rfl hl.1 rfl (Nat.le_of_ble_eq_true rfl) dX4_value_135 ⟨Nat.le_of_ble_eq_true rfl, Nat.le_of_ble_eq_true rfl⟩ (fun u_69 H locs hw_69 hP hD hS => ?_)
                obtain ⟨rs2_69, pl2_69⟩ := u_69
                have hP : va_P (dC, dI) vwCl (wM cA m0 m1 m2 m3 m4 m5 m6 m7 m8 m9 cd row sz1 nd tg st ln pa rd of ar dp xa_9 rs2_69 fd pl2_69 tx ou wr op on dn) H := hP
                have hD : va_D A (wM cA m0 m1 m2 m3 m4 m5 m6 m7 m8 m9 cd row sz1 nd tg st ln pa rd of ar dp xa_9 rs2_69 fd pl2_69 tx ou wr op on dn) := hD
                have hw_69 : rs2_69 = (-4) ∧ pl2_69 = (nI at_) := hw_69
                obtain ⟨e0_69, e1_69⟩ := hw_69
                have e0_69 := e0_69.symm
                subst e0_69
                have e1_69 := e1_69.symm
                subst e1_69
                have hP9 : va_P (dC, dI) vwCl (vX4_value cA m0 m1 m2 m3 m4 m5 m6 m7 m8 m9 cd row sz1 nd tg st ln pa rd of ar dp at_ fd pl tx ou wr op on dn ((-4), (nI at_), fd, tg, st, ln, pa, ar, dp, xa_9, tx, 0, 0)) _ := hP
                have hD9 : va_D A (vX4_value cA m0 m1 m2 m3 m4 m5 m6 m7 m8 m9 cd row sz1 nd tg st ln pa rd of ar dp at_ fd pl tx ou wr op on dn ((-4), (nI at_), fd, tg, st, ln, pa, ar, dp, xa_9, tx, 0, 0)) := hD
                have hq9 : pX4_value m0 m1 m2 m3 m4 m5 m6 m7 m8 m9 cd row sz1 nd tg st ln pa rd of ar dp at_ fd pl tx ou wr op on dn ((-4), (nI at_), fd, tg, st, ln, pa, ar, dp, xa_9, tx, 0, 0) := ⟨Or.inr ⟨by unfold valS; rw [hidn]; dsimp only; rw [hle_9]; dsimp only; unfold conS; rw [if_pos (by omega)], by decide⟩, htg, hst, hln, har, htx, by omega, by omega, by omega⟩
                exact W.vret hx hb hr (fun t ht hW => ⟨⟨((-4), (nI at_), fd, tg, st, ln, pa, ar, dp, xa_9, tx, 0, 0), rfl, hq9, by rw [ht]; exact hP9, va_K.moved hW.alike hK, hD9⟩, hS.F ht⟩) hS.2.2 dX4_value_138
          · have e1_9 := e1_9.symm
            subst e1_9
            have e3_9 := e3_9.symm
            subst e3_9
            refine lv_istore_n (lv' := [(2, .int (-1)), (1, .int (nI at_)), (0, .ref m0)]) hx hb dX4_value_66 rfl hl (by decide) rfl (fun ls hl => ?_)
            refine lv_iload_n hx hb dX4_value_67 rfl (lv_at hl 0 rfl) ?_
            refine lv_iconst (v := (-1)) hx hb dX4_value_68 (by decide) ?_
            refine lv_icmp_ne (tgt := 73) hx hb dX4_value_69 (by decide) (fun c_70 => absurd rfl c_70) (fun c_70 => ?_)
            have hP9 : va_P (dC, dI) vwCl (vX4_value cA m0 m1 m2 m3 m4 m5 m6 m7 m8 m9 cd row sz1 nd tg st ln pa rd of ar dp at_ fd pl tx ou wr op on dn (rs2_9, pl2_9, fd, tg, st, ln, pa, ar, dp, at_, tx, 0, 0)) _ := hP
            have hD9 : va_D A (vX4_value cA m0 m1 m2 m3 m4 m5 m6 m7 m8 m9 cd row sz1 nd tg st ln pa rd of ar dp at_ fd pl tx ou wr op on dn (rs2_9, pl2_9, fd, tg, st, ln, pa, ar, dp, at_, tx, 0, 0)) := hD
            have hq9 : pX4_value m0 m1 m2 m3 m4 m5 m6 m7 m8 m9 cd row sz1 nd tg st ln pa rd of ar dp at_ fd pl tx ou wr op on dn (rs2_9, pl2_9, fd, tg, st, ln, pa, ar, dp, at_, tx, 0, 0) := ⟨Or.inr ⟨by unfold valS; rw [hidn]; dsimp only; rw [hle_9], hne_9⟩, htg, hst, hln, har, htx, by omega, by omega, by omega⟩
            exact W.vret hx hb hr (fun t ht hW => ⟨⟨(rs2_9, pl2_9, fd, tg, st, ln, pa, ar, dp, at_, tx, 0, 0), rfl, hq9, by rw [ht]; exact hP9, va_K.moved hW.alike hK, hD9⟩, hS.F ht⟩) hS.2.2 dX4_value_72
        · refine lv_aload_n hx hb dX4_value_53 rfl (lv_at hl 1 rfl) ?_
          refine lv_bipush (v := (-7)) hx hb dX4_value_54 (by decide) ?_
          refine lv_iload_n hx hb dX4_value_56 rfl (lv_at hl 0 rfl) ?_
          refine cl_Vv (As := [.int (-7), .int (nI at_)]) (rest := []) (wr := []) ⟨hx, hb, hml, hown, hts⟩ (k_X4_fail l dC dI cA m0 m1 m2 m3 m4 m5 m6 m7 m8 m9 cd row sz1 nd tg st ln pa rd of ar dp at_ (nI 0) fd pl tx ou wr op on dn (-7) (nI at_) _ ) (cwV 2 hts gX4_value_X4_fail rfl rfl rfl (by decide +kernel) ⟨Nat.le_of_ble_eq_true rfl, Nat.le_of_ble_eq_true rfl⟩) hK hP hD hS hA [0, 1, 2, 3, 4, 5, 6, 7, 8, 9] [] rfl rfl (by decide) (by decide) (by decide) (ci := 3) (q0 := 0) rfl rfl rfl rfl hl.1 rfl (Nat.le_of_ble_eq_true rfl) dX4_value_57 ⟨Nat.le_of_ble_eq_true rfl, Nat.le_of_ble_eq_true rfl⟩ (fun u_71 H locs hw_71 hP hD hS => ?_)
          obtain ⟨rs2_71, pl2_71⟩ := u_71
          have hP : va_P (dC, dI) vwCl (wM cA m0 m1 m2 m3 m4 m5 m6 m7 m8 m9 cd row sz1 nd tg st ln pa rd of ar dp at_ rs2_71 fd pl2_71 tx ou wr op on dn) H := hP
          have hD : va_D A (wM cA m0 m1 m2 m3 m4 m5 m6 m7 m8 m9 cd row sz1 nd tg st ln pa rd of ar dp at_ rs2_71 fd pl2_71 tx ou wr op on dn) := hD
          have hw_71 : rs2_71 = (-7) ∧ pl2_71 = (nI at_) := hw_71
          obtain ⟨e0_71, e1_71⟩ := hw_71
          have e0_71 := e0_71.symm
          subst e0_71
          have e1_71 := e1_71.symm
          subst e1_71
          have hP9 : va_P (dC, dI) vwCl (vX4_value cA m0 m1 m2 m3 m4 m5 m6 m7 m8 m9 cd row sz1 nd tg st ln pa rd of ar dp at_ fd pl tx ou wr op on dn ((-7), (nI at_), fd, tg, st, ln, pa, ar, dp, at_, tx, 0, 0)) _ := hP
          have hD9 : va_D A (vX4_value cA m0 m1 m2 m3 m4 m5 m6 m7 m8 m9 cd row sz1 nd tg st ln pa rd of ar dp at_ fd pl tx ou wr op on dn ((-7), (nI at_), fd, tg, st, ln, pa, ar, dp, at_, tx, 0, 0)) := hD
          have hq9 : pX4_value m0 m1 m2 m3 m4 m5 m6 m7 m8 m9 cd row sz1 nd tg st ln pa rd of ar dp at_ fd pl tx ou wr op on dn ((-7), (nI at_), fd, tg, st, ln, pa, ar, dp, at_, tx, 0, 0) := ⟨Or.inr ⟨by unfold valS idS; rw [if_neg (by omega), if_neg (fun h => h (by assumption)), if_pos (by omega)], by decide⟩, htg, hst, hln, har, htx, by omega, by omega, by omega⟩
          exact W.vret hx hb hr (fun t ht hW => ⟨⟨((-7), (nI at_), fd, tg, st, ln, pa, ar, dp, at_, tx, 0, 0), rfl, hq9, by rw [ht]; exact hP9, va_K.moved hW.alike hK, hD9⟩, hS.F ht⟩) hS.2.2 dX4_value_60
    · refine lv_aload_n hx hb dX4_value_27 rfl (lv_at hl 1 rfl) ?_
      refine lv_bipush (v := (-2)) hx hb dX4_value_28 (by decide) ?_
      refine lv_iload_n hx hb dX4_value_30 rfl (lv_at hl 0 rfl) ?_
      refine cl_Vv (As := [.int (-2), .int (nI at_)]) (rest := []) (wr := []) ⟨hx, hb, hml, hown, hts⟩ (k_X4_fail l dC dI cA m0 m1 m2 m3 m4 m5 m6 m7 m8 m9 cd row sz1 nd tg st ln pa rd of ar dp at_ (nI 0) fd pl tx ou wr op on dn (-2) (nI at_) _ ) (cwV 2 hts gX4_value_X4_fail rfl rfl rfl (by decide +kernel) ⟨Nat.le_of_ble_eq_true rfl, Nat.le_of_ble_eq_true rfl⟩) hK hP hD hS hA [0, 1, 2, 3, 4, 5, 6, 7, 8, 9] [] rfl rfl (by decide) (by decide) (by decide) (ci := 3) (q0 := 0) rfl rfl rfl rfl hl.1 rfl (Nat.le_of_ble_eq_true rfl) dX4_value_31 ⟨Nat.le_of_ble_eq_true rfl, Nat.le_of_ble_eq_true rfl⟩ (fun u_72 H locs hw_72 hP hD hS => ?_)
      obtain ⟨rs2_72, pl2_72⟩ := u_72
      have hP : va_P (dC, dI) vwCl (wM cA m0 m1 m2 m3 m4 m5 m6 m7 m8 m9 cd row sz1 nd tg st ln pa rd of ar dp at_ rs2_72 fd pl2_72 tx ou wr op on dn) H := hP
      have hD : va_D A (wM cA m0 m1 m2 m3 m4 m5 m6 m7 m8 m9 cd row sz1 nd tg st ln pa rd of ar dp at_ rs2_72 fd pl2_72 tx ou wr op on dn) := hD
      have hw_72 : rs2_72 = (-2) ∧ pl2_72 = (nI at_) := hw_72
      obtain ⟨e0_72, e1_72⟩ := hw_72
      have e0_72 := e0_72.symm
      subst e0_72
      have e1_72 := e1_72.symm
      subst e1_72
      have hP9 : va_P (dC, dI) vwCl (vX4_value cA m0 m1 m2 m3 m4 m5 m6 m7 m8 m9 cd row sz1 nd tg st ln pa rd of ar dp at_ fd pl tx ou wr op on dn ((-2), (nI at_), fd, tg, st, ln, pa, ar, dp, at_, tx, 0, 0)) _ := hP
      have hD9 : va_D A (vX4_value cA m0 m1 m2 m3 m4 m5 m6 m7 m8 m9 cd row sz1 nd tg st ln pa rd of ar dp at_ fd pl tx ou wr op on dn ((-2), (nI at_), fd, tg, st, ln, pa, ar, dp, at_, tx, 0, 0)) := hD
      have hq9 : pX4_value m0 m1 m2 m3 m4 m5 m6 m7 m8 m9 cd row sz1 nd tg st ln pa rd of ar dp at_ fd pl tx ou wr op on dn ((-2), (nI at_), fd, tg, st, ln, pa, ar, dp, at_, tx, 0, 0) := ⟨Or.inr ⟨by unfold valS idS; rw [if_neg (by omega), if_pos (by assumption)], by decide⟩, htg, hst, hln, har, htx, by omega, by omega, by omega⟩
      exact W.vret hx hb hr (fun t ht hW => ⟨⟨((-2), (nI at_), fd, tg, st, ln, pa, ar, dp, at_, tx, 0, 0), rfl, hq9, by rw [ht]; exact hP9, va_K.moved hW.alike hK, hD9⟩, hS.F ht⟩) hS.2.2 dX4_value_34
  · have e1_1 := e1_1.symm
    subst e1_1
    have hcut := hcut_1
    have hd0 : dp = 0 := by rcases Nat.eq_zero_or_pos dp with z | z; exact z; exact absurd (i11 z) (by unfold limN at hms_1; rw [if_neg (by omega)] at hms_1; omega)
    unfold limN at hms_1
    rw [if_pos hd0] at hms_1
    refine hl_if_eq (tgt := 15) hx hb dX4_value_11 (by decide) (by omega) (fun c_73 => absurd c_73 (by decide)) (fun c_73 => ?_)
    have hP9 : va_P (dC, dI) vwCl (vX4_value cA m0 m1 m2 m3 m4 m5 m6 m7 m8 m9 cd row sz1 nd tg st ln pa rd of ar dp at_ fd pl tx ou wr op on dn (rs2_1, pl2_1, fd, tg, st, ln, pa, ar, dp, at_, tx, 0, 0)) _ := hP
    have hD9 : va_D A (vX4_value cA m0 m1 m2 m3 m4 m5 m6 m7 m8 m9 cd row sz1 nd tg st ln pa rd of ar dp at_ fd pl tx ou wr op on dn (rs2_1, pl2_1, fd, tg, st, ln, pa, ar, dp, at_, tx, 0, 0)) := hD
    have hq9 : pX4_value m0 m1 m2 m3 m4 m5 m6 m7 m8 m9 cd row sz1 nd tg st ln pa rd of ar dp at_ fd pl tx ou wr op on dn (rs2_1, pl2_1, fd, tg, st, ln, pa, ar, dp, at_, tx, 0, 0) := ⟨Or.inr ⟨by unfold valS idS; rw [if_pos (by omega)]; unfold cutE at hcut; rw [if_pos hd0] at hcut; exact congrArg _ hcut.symm, cutE_ne hcut⟩, htg, hst, hln, har, htx, by omega, by omega, by omega⟩
    exact W.vret hx hb hr (fun t ht hW => ⟨⟨(rs2_1, pl2_1, fd, tg, st, ln, pa, ar, dp, at_, tx, 0, 0), rfl, hq9, by rw [ht]; exact hP9, va_K.moved hW.alike hK, hD9⟩, hS.F ht⟩) hS.2.2 dX4_value_14
