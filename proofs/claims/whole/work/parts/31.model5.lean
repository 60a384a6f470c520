abbrev pX4_end (m0 : Nat) (m1 : Nat) (m2 : Nat) (m3 : Nat) (m4 : Nat) (m5 : Nat) (m6 : Nat) (m7 : Nat) (m8 : Nat) (m9 : Nat) (cd : Int32) (row : Nat → Nat) (sz1 : Nat) (nd : Nat) (tg : Nat → Nat) (st : Nat → Nat) (ln : Nat → Nat) (pa : Nat → Int32) (rd : Nat) (of : Int32) (ar : Nat → Nat) (dp : Nat) (at_ : Nat) (rs : Int32) (fd : Nat) (pl : Int32) (tx : Nat → Nat) (ou : Nat → Nat) (wr : Nat) (op : Nat → Nat) (on : Nat) (dn : Nat) : Int32 → Int32 × (Nat → Nat) × Nat × Nat × Nat × (Nat → Nat) → Prop := fun (r : Int32) (u : Int32 × (Nat → Nat) × Nat × Nat × Nat × (Nat → Nat)) => match u with | (cd2, ou2, wr2, on2, dn2, tx2) => (r = enC on wr ou op ∧ ((enC on wr ou op = 0 ∧ 0 < on ∧ wr + lenSz (enN on wr op) ≤ 300 ∧ enB on wr ou op ou2 ∧ wr2 = wr + lenSz (enN on wr op) ∧ on2 = on - 1 ∧ dn2 = (if on - 1 = 0 then 1 else 0)) ∨ (enC on wr ou op = -4 ∧ 0 < on ∧ ou2 = ou ∧ wr2 = op (on - 1) ∧ on2 = on - 1 ∧ dn2 = dn) ∨ (enC on wr ou op ≠ 0 ∧ enC on wr ou op ≠ -4 ∧ ou2 = ou ∧ wr2 = wr ∧ on2 = on ∧ dn2 = dn)) ∧ (∀ j, ou2 j < 256) ∧ (∀ j, tx2 j < 256)) ∧ cd2 = nI 0
abbrev vX4_end (cA : ClassId) (m0 : Nat) (m1 : Nat) (m2 : Nat) (m3 : Nat) (m4 : Nat) (m5 : Nat) (m6 : Nat) (m7 : Nat) (m8 : Nat) (m9 : Nat) (cd : Int32) (row : Nat → Nat) (sz1 : Nat) (nd : Nat) (tg : Nat → Nat) (st : Nat → Nat) (ln : Nat → Nat) (pa : Nat → Int32) (rd : Nat) (of : Int32) (ar : Nat → Nat) (dp : Nat) (at_ : Nat) (rs : Int32) (fd : Nat) (pl : Int32) (tx : Nat → Nat) (ou : Nat → Nat) (wr : Nat) (op : Nat → Nat) (on : Nat) (dn : Nat) : Int32 × (Nat → Nat) × Nat × Nat × Nat × (Nat → Nat) → va_W := fun (u : Int32 × (Nat → Nat) × Nat × Nat × Nat × (Nat → Nat)) => match u with | (cd2, ou2, wr2, on2, dn2, tx2) => wM cA m0 m1 m2 m3 m4 m5 m6 m7 m8 m9 cd2 row sz1 nd tg st ln pa rd of ar dp at_ rs fd pl tx2 ou2 wr2 op on2 dn2
abbrev qX4_end (dC : Nat → ClassId) (dI : Nat → Nat → Nat) (cA : ClassId) (A : Nat → Prop) (m0 : Nat) (m1 : Nat) (m2 : Nat) (m3 : Nat) (m4 : Nat) (m5 : Nat) (m6 : Nat) (m7 : Nat) (m8 : Nat) (m9 : Nat) (cd : Int32) (row : Nat → Nat) (sz1 : Nat) (nd : Nat) (tg : Nat → Nat) (st : Nat → Nat) (ln : Nat → Nat) (pa : Nat → Int32) (rd : Nat) (of : Int32) (ar : Nat → Nat) (dp : Nat) (at_ : Nat) (rs : Int32) (fd : Nat) (pl : Int32) (tx : Nat → Nat) (ou : Nat → Nat) (wr : Nat) (op : Nat → Nat) (on : Nat) (dn : Nat) : Array Value → State → Outcome → State → Prop := va_Qi (pX4_end m0 m1 m2 m3 m4 m5 m6 m7 m8 m9 cd row sz1 nd tg st ln pa rd of ar dp at_ rs fd pl tx ou wr op on dn) (fun u => cAft dC dI cA A (vX4_end cA m0 m1 m2 m3 m4 m5 m6 m7 m8 m9 cd row sz1 nd tg st ln pa rd of ar dp at_ rs fd pl tx ou wr op on dn u)) A
set_option maxHeartbeats 4000000 in
set_option maxRecDepth 100000 in
theorem k_X4_end (l : Launch) (dC : Nat → ClassId) (dI : Nat → Nat → Nat) (cA : ClassId) (m0 : Nat) (m1 : Nat) (m2 : Nat) (m3 : Nat) (m4 : Nat) (m5 : Nat) (m6 : Nat) (m7 : Nat) (m8 : Nat) (m9 : Nat) (cd : Int32) (row : Nat → Nat) (sz1 : Nat) (nd : Nat) (tg : Nat → Nat) (st : Nat → Nat) (ln : Nat → Nat) (pa : Nat → Int32) (rd : Nat) (of : Int32) (ar : Nat → Nat) (dp : Nat) (at_ : Nat) (rs : Int32) (fd : Nat) (pl : Int32) (tx : Nat → Nat) (ou : Nat → Nat) (wr : Nat) (op : Nat → Nat) (on : Nat) (dn : Nat) (sz : Nat) (hou : ∀ j, ou j < 256) (hwr : wr ≤ 300) (hon : on ≤ 16) (hop : ∀ j, j < on → op j < wr) (htx : ∀ j, tx j < 256) : Met l yX4_end wsX4_end ({ frames := 1, cells := 0, slots := 0, locals := 25 } : Room) (va_Pc [.ref m0] (cPre dC dI cA (wM cA m0 m1 m2 m3 m4 m5 m6 m7 m8 m9 cd row sz1 nd tg st ln pa rd of ar dp at_ rs fd pl tx ou wr op on dn) sz)) (qX4_end dC dI cA (va_A (wM cA m0 m1 m2 m3 m4 m5 m6 m7 m8 m9 cd row sz1 nd tg st ln pa rd of ar dp at_ rs fd pl tx ou wr op on dn) sz) m0 m1 m2 m3 m4 m5 m6 m7 m8 m9 cd row sz1 nd tg st ln pa rd of ar dp at_ rs fd pl tx ou wr op on dn) 0 0 (va_A (wM cA m0 m1 m2 m3 m4 m5 m6 m7 m8 m9 cd row sz1 nd tg st ln pa rd of ar dp at_ rs fd pl tx ou wr op on dn) sz) := by
  refine Met.ofW (cc := cX4_end) (maxL := 5) (ret := (some .int)) (by decide) rfl ?_
  intro p e s m args below meth c s₁ B hml hv
  obtain ⟨rfl, hsz, hP, hK, hD0⟩ := hv
  have hx := B.exec
  have hb := B.bytes
  have hr := B.returns
  have hts := atoms_spec (ws := wsX4_end) B.pre
  have hown : s.vm.findClass RX4 = some m.cls := findClass_of_methodNamed B.named
  have hlocks := B.notSynchronized
  subst hsz
  have hD := hD0.self (sz := s.heap.size)
  generalize hAe : va_A (wM cA m0 m1 m2 m3 m4 m5 m6 m7 m8 m9 cd row sz1 nd tg st ln pa rd of ar dp at_ rs fd pl tx ou wr op on dn) s.heap.size = A at hD ⊢
  have hA : ∀ q : Nat, s.heap.size ≤ q → A q := fun q h => by rw [← hAe]; exact Or.inr h
  have hS : va_S A s.heap s.heap [] := va_S.rf
  have hl := lv_entry ([.ref m0]) (n := 5) (Nat.le_of_ble_eq_true rfl)
  rw [lg_entry_eq]
  generalize (lg_sl ([.ref m0]) ++ List.replicate (5 - (lg_sl ([.ref m0])).length) Slot.unset).toArray = ls at hl ⊢
  have hl : lv_has ls 5 [(0, .ref m0)] := hl
  have hinX4 : ∀ w ∈ wsX40, w ∈ wsX4_end := fun _ h => List.mem_cons_of_mem _ (List.mem_append_right _ h)
  have hf_32 := hts (.fieldLink RX4 32 "DerDeskModel" "text" "[I") (by decide +kernel)
  have hf_35 := hts (.fieldLink RX4 35 "DerDeskModel" "output" "[I") (by decide +kernel)
  have hf_38 := hts (.fieldLink RX4 38 "DerDeskModel" "opens" "[I") (by decide +kernel)
  have hf_41 := hts (.fieldLink RX4 41 "DerDeskModel" "code" "I") (by decide +kernel)
  have hf_112 := hts (.fieldLink RX4 112 "DerDeskModel" "written" "I") (by decide +kernel)
  have hf_115 := hts (.fieldLink RX4 115 "DerDeskModel" "open" "I") (by decide +kernel)
  have hf_118 := hts (.fieldLink RX4 118 "DerDeskModel" "done" "Z") (by decide +kernel)
  have hP : va_P (dC, dI) vwCl (wM cA m0 m1 m2 m3 m4 m5 m6 m7 m8 m9 cd row sz1 nd tg st ln pa rd of ar dp at_ rs fd pl tx ou wr op on dn) s.heap := hP
  refine lv_aload_n hx hb dX4_end_0 rfl (lv_at hl 0 rfl) ?_
  refine lv_iconst (v := nI 0) hx hb dX4_end_1 (by decide) ?_
  refine va_put (D := (dC, dI)) (ci := 3) (v := .int (nI 0)) (ty := .int) (C := RX4) (T := TX4) (N := 22) hx hb hts hinX4 tyX4 tyX4_ok nmX4 hown hK hP hD hS 0 rfl rfl 0 (by decide) hf_41 (fun _ h9 => h9) rfl (by decide +kernel) rfl rfl (Nat.le_of_ble_eq_true rfl) dX4_end_2 (fun H locs hP hD hS => ?_)
  have hP : va_P (dC, dI) vwCl (wM cA m0 m1 m2 m3 m4 m5 m6 m7 m8 m9 (nI 0) row sz1 nd tg st ln pa rd of ar dp at_ rs fd pl tx ou wr op on dn) H := hP
  have hD : va_D A (wM cA m0 m1 m2 m3 m4 m5 m6 m7 m8 m9 (nI 0) row sz1 nd tg st ln pa rd of ar dp at_ rs fd pl tx ou wr op on dn) := hD
  refine lv_aload_n hx hb dX4_end_5 rfl (lv_at hl 0 rfl) ?_
  refine va_get (D := (dC, dI)) (ci := 3) (v := .int (nI on)) (C := RX4) (T := TX4) (N := 22) hx hb hts hinX4 hown hK hP 0 rfl rfl 20 (by decide) hf_115 (fun _ h9 => h9) rfl dX4_end_6 ?_
  refine hl_if_ne (tgt := 15) hx hb dX4_end_9 (by decide) (by omega) (fun c_1 => ?_) (fun c_1 => ?_)
  · refine lv_aload_n hx hb dX4_end_15 rfl (lv_at hl 0 rfl) ?_
    refine va_get (D := (dC, dI)) (ci := 3) (v := .ref m9) (C := RX4) (T := TX4) (N := 22) hx hb hts hinX4 hown hK hP 0 rfl rfl 19 (by decide) hf_38 (fun _ h9 => h9) rfl dX4_end_16 ?_
    refine lv_aload_n hx hb dX4_end_19 rfl (lv_at hl 0 rfl) ?_
    refine va_get (D := (dC, dI)) (ci := 3) (v := .int (nI on)) (C := RX4) (T := TX4) (N := 22) hx hb hts hinX4 hown hK hP 0 rfl rfl 20 (by decide) hf_115 (fun _ h9 => h9) rfl dX4_end_20 ?_
    refine lv_iconst (v := nI 1) hx hb dX4_end_23 (by decide) ?_
    refine hl_isub hx hb (by omega) dX4_end_24 ?_
    refine hl_iald hx hb hK hP 9 0 rfl rfl (by omega) (by decide) dX4_end_25 ?_
    have ho := hop (on - 1) (by omega)
    refine lv_istore_n (lv' := [(1, .int (nI (op (on - 1)))), (0, .ref m0)]) hx hb dX4_end_26 rfl hl (by decide) rfl (fun ls hl => ?_)
    refine lv_aload_n hx hb dX4_end_27 rfl (lv_at hl 1 rfl) ?_
    refine va_get (D := (dC, dI)) (ci := 3) (v := .int (nI wr)) (C := RX4) (T := TX4) (N := 22) hx hb hts hinX4 hown hK hP 0 rfl rfl 18 (by decide) hf_112 (fun _ h9 => h9) rfl dX4_end_28 ?_
    refine lv_iload_n hx hb dX4_end_31 rfl (lv_at hl 0 rfl) ?_
    refine hl_isub hx hb (by omega) dX4_end_32 ?_
    refine lv_iconst (v := nI 1) hx hb dX4_end_33 (by decide) ?_
    refine hl_isub hx hb (by omega) dX4_end_34 ?_
    refine hl_top (show nI (wr - op (on - 1) - 1) = nI (wr - (op (on - 1) + 1)) from congrArg nI (by omega)) ?_
    refine lv_istore_n (lv' := [(2, .int (nI (wr - (op (on - 1) + 1)))), (1, .int (nI (op (on - 1)))), (0, .ref m0)]) hx hb dX4_end_35 rfl hl (by decide) rfl (fun ls hl => ?_)
    refine lv_iconst (v := nI 0) hx hb dX4_end_36 (by decide) ?_
    refine lv_istore_n (lv' := [(3, .int (nI 0)), (2, .int (nI (wr - (op (on - 1) + 1)))), (1, .int (nI (op (on - 1)))), (0, .ref m0)]) hx hb dX4_end_37 rfl hl (by decide) rfl (fun ls hl => ?_)
    have lp_38 : ∀ (nf : Nat) (k : Nat) (tx1 : Nat → Nat), wr - (op (on - 1) + 1) - k < nf → (k ≤ wr - (op (on - 1) + 1)) → (∀ j, j < k → tx1 j = ou (op (on - 1) + 1 + j)) → (∀ j, tx1 j < 256) → ∀ (H : Heap) (locs : List Loc) (ls : Array Slot), va_P (dC, dI) vwCl (wM cA m0 m1 m2 m3 m4 m5 m6 m7 m8 m9 (nI 0) row sz1 nd tg st ln pa rd of ar dp at_ rs fd pl tx1 ou wr op on dn) H → va_D A (wM cA m0 m1 m2 m3 m4 m5 m6 m7 m8 m9 (nI 0) row sz1 nd tg st ln pa rd of ar dp at_ rs fd pl tx1 ou wr op on dn) → va_S A s.heap H locs → lv_has ls 5 [(3, .int (nI k)), (2, .int (nI (wr - (op (on - 1) + 1)))), (1, .int (nI (op (on - 1)))), (0, .ref m0)] → W p l e (headSpec wsX4_end ({ frames := 1, cells := 0, slots := 0, locals := 25 } : Room)).room s m ([.ref m0] : List Value).toArray below meth c H locs 0 0 (MQ below (qX4_end dC dI cA A m0 m1 m2 m3 m4 m5 m6 m7 m8 m9 cd row sz1 nd tg st ln pa rd of ar dp at_ rs fd pl tx ou wr op on dn) ([.ref m0] : List Value).toArray s 0 0 A) (F0 m 38 ls []) := by
      intro nf
      induction nf with
      | zero =>
        intro k tx1 hm
        exact absurd hm (Nat.not_lt_zero _)
      | succ nf ih_38 =>
        intro k tx1 hm hk hc1 hb1 H locs ls hP hD hS hl
        refine lv_iload_n hx hb dX4_end_38 rfl (lv_at hl 0 rfl) ?_
        refine lv_iload_n hx hb dX4_end_39 rfl (lv_at hl 1 rfl) ?_
        refine hl_icmp_ge (tgt := 65) hx hb dX4_end_40 (by decide) (by omega) (by omega) (fun c_3 => ?_) (fun c_3 => ?_)
        · have hkn : k = wr - (op (on - 1) + 1) := by omega
          have hcon : okC (ou (op (on - 1))) tx1 0 (wr - (op (on - 1) + 1)) = okC (ou (op (on - 1))) ou (op (on - 1) + 1) (wr - (op (on - 1) + 1)) := okC_eq (fun j hj => by rw [Nat.zero_add]; exact hc1 j (by omega))
          have hc2 : ∀ j, j < wr - (op (on - 1) + 1) → tx1 j = ou (op (on - 1) + 1 + j) := fun j hj => hc1 j (by omega)
          clear hc1 hkn
          refine lv_aload_n hx hb dX4_end_65 rfl (lv_at hl 3 rfl) ?_
          refine lv_aload_n hx hb dX4_end_66 rfl (lv_at hl 3 rfl) ?_
          refine va_get (D := (dC, dI)) (ci := 3) (v := .ref m8) (C := RX4) (T := TX4) (N := 22) hx hb hts hinX4 hown hK hP 0 rfl rfl 17 (by decide) hf_35 (fun _ h9 => h9) rfl dX4_end_67 ?_
          refine lv_iload_n hx hb dX4_end_70 rfl (lv_at hl 2 rfl) ?_
          refine hl_iald hx hb hK hP 8 0 rfl rfl (by omega) (by decide) dX4_end_71 ?_
          refine lv_iload_n hx hb dX4_end_72 rfl (lv_at hl 1 rfl) ?_
          refine cl_Vi (As := [.int (nI (ou (op (on - 1)))), .int (nI (wr - (op (on - 1) + 1)))]) (rest := []) (wr := []) ⟨hx, hb, hml, hown, hts⟩ (k_X4_isRight l dC dI cA m0 m1 m2 m3 m4 m5 m6 m7 m8 m9 (nI 0) row sz1 nd tg st ln pa rd of ar dp at_ rs fd pl tx1 ou wr op on dn (ou (op (on - 1))) (wr - (op (on - 1) + 1)) _ hb1 (hou _) (by omega)) (cwV 2 hts gX4_end_X4_isRight rfl rfl rfl (by decide +kernel) ⟨Nat.le_of_ble_eq_true rfl, Nat.le_of_ble_eq_true rfl⟩) hK hP hD hS hA [0, 1, 2, 3, 4, 5, 6, 7, 8, 9] [] rfl rfl (by decide) (by decide) (by decide) (ci := 3) (q0 := 0) rfl rfl rfl rfl hl.1 rfl (Nat.le_of_ble_eq_true rfl) dX4_end_73 ⟨Nat.le_of_ble_eq_true rfl, Nat.le_of_ble_eq_true rfl⟩ (fun r_4 u_4 H locs hw_4 hP hD hS => ?_)
          have hP : va_P (dC, dI) vwCl (wM cA m0 m1 m2 m3 m4 m5 m6 m7 m8 m9 (nI 0) row sz1 nd tg st ln pa rd of ar dp at_ rs fd pl tx1 ou wr op on dn) H := hP
          have hD : va_D A (wM cA m0 m1 m2 m3 m4 m5 m6 m7 m8 m9 (nI 0) row sz1 nd tg st ln pa rd of ar dp at_ rs fd pl tx1 ou wr op on dn) := hD
          have hw_4 : r_4 = if okC (ou (op (on - 1))) tx1 0 (wr - (op (on - 1) + 1)) = true then 1 else 0 := hw_4
          have hw_4 := hw_4.symm
          subst hw_4
          refine hl_ifb_ne (tgt := 97) hx hb dX4_end_76 (by decide) (fun c_5 => ?_) (fun c_5 => ?_)
          · refine lv_iload_n hx hb dX4_end_97 rfl (lv_at hl 1 rfl) ?_
            refine lv_sipush (v := nI 128) hx hb dX4_end_98 (by decide) ?_
            refine hl_icmp_ge (tgt := 108) hx hb dX4_end_101 (by decide) (by omega) (by omega) (fun c_6 => ?_) (fun c_6 => ?_)
            · refine lv_iload_n hx hb dX4_end_108 rfl (lv_at hl 1 rfl) ?_
              refine lv_sipush (v := nI 256) hx hb dX4_end_109 (by decide) ?_
              refine hl_icmp_ge (tgt := 119) hx hb dX4_end_112 (by decide) (by omega) (by omega) (fun c_7 => ?_) (fun c_7 => ?_)
              · refine lv_iconst (v := nI 3) hx hb dX4_end_119 (by decide) ?_
                refine lv_istore_n (lv' := [(3, .int (nI 3)), (2, .int (nI (wr - (op (on - 1) + 1)))), (1, .int (nI (op (on - 1)))), (0, .ref m0)]) hx hb dX4_end_120 rfl hl (by decide) rfl (fun ls hl => ?_)
                have hz : lenSz (wr - (op (on - 1) + 1)) = 3 := by unfold lenSz; first | rw [if_pos (by omega)] | rw [if_neg (by omega), if_pos (by omega)] | rw [if_neg (by omega), if_neg (by omega)]
                refine lv_aload_n hx hb dX4_end_121 rfl (lv_at hl 3 rfl) ?_
                refine va_get (D := (dC, dI)) (ci := 3) (v := .int (nI wr)) (C := RX4) (T := TX4) (N := 22) hx hb hts hinX4 hown hK hP 0 rfl rfl 18 (by decide) hf_112 (fun _ h9 => h9) rfl dX4_end_122 ?_
                refine lv_iload_n hx hb dX4_end_125 rfl (lv_at hl 0 rfl) ?_
                refine hl_iadd hx hb dX4_end_126 ?_
                refine lv_sipush (v := nI 300) hx hb dX4_end_127 (by decide) ?_
                refine hl_icmp_le (tgt := 136) hx hb dX4_end_130 (by decide) (by omega) (by omega) (fun c_8 => ?_) (fun c_8 => ?_)
                · refine lv_iload_n hx hb dX4_end_136 rfl (lv_at hl 1 rfl) ?_
                  refine lv_iconst (v := nI 1) hx hb dX4_end_137 (by decide) ?_
                  refine lv_isub hx hb dX4_end_138 ?_
                  rw [show nI (wr - (op (on - 1) + 1)) - nI 1 = mI (wr - (op (on - 1) + 1)) from mI_sub (wr - (op (on - 1) + 1))]
                  refine lv_istore (lv' := [(4, .int (mI (wr - (op (on - 1) + 1)))), (3, .int (nI 3)), (2, .int (nI (wr - (op (on - 1) + 1)))), (1, .int (nI (op (on - 1)))), (0, .ref m0)]) hx hb dX4_end_139 hl (by decide) rfl (fun ls hl => ?_)
                  have lp_141 : ∀ (nf : Nat) (q : Nat) (ou1 : Nat → Nat), q < nf → (q ≤ wr - (op (on - 1) + 1)) → (∀ j, j < op (on - 1) + 1 + 3 + q → ou1 j = ou j) → (∀ j, q ≤ j → j < wr - (op (on - 1) + 1) → ou1 (op (on - 1) + 1 + 3 + j) = tx1 j) → (∀ j, ou1 j < 256) → ∀ (H : Heap) (locs : List Loc) (ls : Array Slot), va_P (dC, dI) vwCl (wM cA m0 m1 m2 m3 m4 m5 m6 m7 m8 m9 (nI 0) row sz1 nd tg st ln pa rd of ar dp at_ rs fd pl tx1 ou1 wr op on dn) H → va_D A (wM cA m0 m1 m2 m3 m4 m5 m6 m7 m8 m9 (nI 0) row sz1 nd tg st ln pa rd of ar dp at_ rs fd pl tx1 ou1 wr op on dn) → va_S A s.heap H locs → lv_has ls 5 [(4, .int (mI q)), (3, .int (nI 3)), (2, .int (nI (wr - (op (on - 1) + 1)))), (1, .int (nI (op (on - 1)))), (0, .ref m0)] → W p l e (headSpec wsX4_end ({ frames := 1, cells := 0, slots := 0, locals := 25 } : Room)).room s m ([.ref m0] : List Value).toArray below meth c H locs 0 0 (MQ below (qX4_end dC dI cA A m0 m1 m2 m3 m4 m5 m6 m7 m8 m9 cd row sz1 nd tg st ln pa rd of ar dp at_ rs fd pl tx ou wr op on dn) ([.ref m0] : List Value).toArray s 0 0 A) (F0 m 141 ls []) := by
                    intro nf
                    induction nf with
                    | zero =>
                      intro q ou1 hm
                      exact absurd hm (Nat.not_lt_zero _)
                    | succ nf ih_141 =>
                      intro q ou1 hm hk2 h1 h2 hb2 H locs ls hP hD hS hl
                      cases q with
                      | zero =>
                        refine lv_iload hx hb dX4_end_141 (lv_at hl 0 rfl) ?_
                        refine lv_if_lt (tgt := 172) hx hb dX4_end_143 (by decide) (fun c_10 => ?_) (fun c_10 => absurd (by decide) c_10)
                        refine lv_aload_n hx hb dX4_end_172 rfl (lv_at hl 4 rfl) ?_
                        refine va_get (D := (dC, dI)) (ci := 3) (v := .ref m8) (C := RX4) (T := TX4) (N := 22) hx hb hts hinX4 hown hK hP 0 rfl rfl 17 (by decide) hf_35 (fun _ h9 => h9) rfl dX4_end_173 ?_
                        refine lv_iload_n hx hb dX4_end_176 rfl (lv_at hl 3 rfl) ?_
                        refine lv_iconst (v := nI 1) hx hb dX4_end_177 (by decide) ?_
                        refine hl_iadd hx hb dX4_end_178 ?_
                        refine lv_iload_n hx hb dX4_end_179 rfl (lv_at hl 1 rfl) ?_
                        refine lv_iconst (v := nI 1) hx hb dX4_end_180 (by decide) ?_
                        refine hl_icmp_ne (tgt := 188) hx hb dX4_end_181 (by decide) (by omega) (by omega) (fun c_11 => ?_) (fun c_11 => absurd c_11 (by decide))
                        refine lv_bipush (v := nI 127) hx hb dX4_end_188 (by decide) ?_
                        refine lv_iload_n hx hb dX4_end_190 rfl (lv_at hl 1 rfl) ?_
                        refine lv_iadd hx hb dX4_end_191 ?_
                        refine hl_top (show _ = nI 130 by decide) ?_
                        refine hl_iast hx hb hK hP hD hS 8 0 rfl rfl (by omega) (by decide) dX4_end_192 (fun H locs hP hD hS => ?_)
                        have hP : va_P (dC, dI) vwCl (wM cA m0 m1 m2 m3 m4 m5 m6 m7 m8 m9 (nI 0) row sz1 nd tg st ln pa rd of ar dp at_ rs fd pl tx1 (va_up ou1 ((op (on - 1)) + 1) 130) wr op on dn) H := hP
                        have hD : va_D A (wM cA m0 m1 m2 m3 m4 m5 m6 m7 m8 m9 (nI 0) row sz1 nd tg st ln pa rd of ar dp at_ rs fd pl tx1 (va_up ou1 ((op (on - 1)) + 1) 130) wr op on dn) := hD
                        refine lv_iconst (v := nI 1) hx hb dX4_end_193 (by decide) ?_
                        refine lv_istore (lv' := [(4, .int (nI 1)), (3, .int (nI 3)), (2, .int (nI (wr - (op (on - 1) + 1)))), (1, .int (nI (op (on - 1)))), (0, .ref m0)]) hx hb dX4_end_194 hl (by decide) rfl (fun ls hl => ?_)
                        refine lv_iload hx hb dX4_end_196 (lv_at hl 0 rfl) ?_
                        refine lv_iload_n hx hb dX4_end_198 rfl (lv_at hl 1 rfl) ?_
                        refine hl_icmp_ge (tgt := 234) hx hb dX4_end_199 (by decide) (by omega) (by omega) (fun c_12 => absurd c_12 (by decide)) (fun c_12 => ?_)
                        refine lv_aload_n hx hb dX4_end_202 rfl (lv_at hl 4 rfl) ?_
                        refine va_get (D := (dC, dI)) (ci := 3) (v := .ref m8) (C := RX4) (T := TX4) (N := 22) hx hb hts hinX4 hown hK hP 0 rfl rfl 17 (by decide) hf_35 (fun _ h9 => h9) rfl dX4_end_203 ?_
                        refine lv_iload_n hx hb dX4_end_206 rfl (lv_at hl 3 rfl) ?_
                        refine lv_iconst (v := nI 1) hx hb dX4_end_207 (by decide) ?_
                        refine hl_iadd hx hb dX4_end_208 ?_
                        refine lv_iload hx hb dX4_end_209 (lv_at hl 0 rfl) ?_
                        refine hl_iadd hx hb dX4_end_211 ?_
                        refine lv_iload_n hx hb dX4_end_212 rfl (lv_at hl 2 rfl) ?_
                        refine lv_bipush (v := nI 8) hx hb dX4_end_213 (by decide) ?_
                        refine lv_iload_n hx hb dX4_end_215 rfl (lv_at hl 1 rfl) ?_
                        refine lv_iconst (v := nI 1) hx hb dX4_end_216 (by decide) ?_
                        refine lv_isub hx hb dX4_end_217 ?_
                        refine hl_top (show _ = nI 2 by decide) ?_
                        refine lv_iload hx hb dX4_end_218 (lv_at hl 0 rfl) ?_
                        refine lv_isub hx hb dX4_end_220 ?_
                        refine hl_top (show _ = nI 1 by decide) ?_
                        refine lv_imul hx hb dX4_end_221 ?_
                        refine hl_top (show _ = nI 8 by decide) ?_
                        refine lv_ishr hx hb dX4_end_222 ?_
                        refine lv_sipush (v := nI 255) hx hb dX4_end_223 (by decide) ?_
                        refine lv_iand hx hb dX4_end_226 ?_
                        refine hl_top (shr_and (n := wr - (op (on - 1) + 1)) (k := 8) (by omega) (nI 8 &&& 31) (by decide)) ?_
                        refine hl_iast hx hb hK hP hD hS 8 0 rfl rfl (by omega) (by decide) dX4_end_227 (fun H locs hP hD hS => ?_)
                        have hP : va_P (dC, dI) vwCl (wM cA m0 m1 m2 m3 m4 m5 m6 m7 m8 m9 (nI 0) row sz1 nd tg st ln pa rd of ar dp at_ rs fd pl tx1 (va_up (va_up ou1 ((op (on - 1)) + 1) 130) (((op (on - 1)) + 1) + 1) ((wr - (op (on - 1) + 1)) / 2 ^ 8 % 256)) wr op on dn) H := hP
                        have hD : va_D A (wM cA m0 m1 m2 m3 m4 m5 m6 m7 m8 m9 (nI 0) row sz1 nd tg st ln pa rd of ar dp at_ rs fd pl tx1 (va_up (va_up ou1 ((op (on - 1)) + 1) 130) (((op (on - 1)) + 1) + 1) ((wr - (op (on - 1) + 1)) / 2 ^ 8 % 256)) wr op on dn) := hD
                        refine lv_iinc (v := (nI 2)) (lv' := [(4, .int (nI 2)), (3, .int (nI 3)), (2, .int (nI (wr - (op (on - 1) + 1)))), (1, .int (nI (op (on - 1)))), (0, .ref m0)]) hx hb dX4_end_228 hl (k := 0) rfl (by decide) (by decide) rfl (fun ls hl => ?_)
                        refine lv_goto (tgt := 196) hx hb dX4_end_231 (by decide) ?_
                        refine lv_iload hx hb dX4_end_196 (lv_at hl 0 rfl) ?_
                        refine lv_iload_n hx hb dX4_end_198 rfl (lv_at hl 1 rfl) ?_
                        refine hl_icmp_ge (tgt := 234) hx hb dX4_end_199 (by decide) (by omega) (by omega) (fun c_13 => absurd c_13 (by decide)) (fun c_13 => ?_)
                        refine lv_aload_n hx hb dX4_end_202 rfl (lv_at hl 4 rfl) ?_
                        refine va_get (D := (dC, dI)) (ci := 3) (v := .ref m8) (C := RX4) (T := TX4) (N := 22) hx hb hts hinX4 hown hK hP 0 rfl rfl 17 (by decide) hf_35 (fun _ h9 => h9) rfl dX4_end_203 ?_
                        refine lv_iload_n hx hb dX4_end_206 rfl (lv_at hl 3 rfl) ?_
                        refine lv_iconst (v := nI 1) hx hb dX4_end_207 (by decide) ?_
                        refine hl_iadd hx hb dX4_end_208 ?_
                        refine lv_iload hx hb dX4_end_209 (lv_at hl 0 rfl) ?_
                        refine hl_iadd hx hb dX4_end_211 ?_
                        refine lv_iload_n hx hb dX4_end_212 rfl (lv_at hl 2 rfl) ?_
                        refine lv_bipush (v := nI 8) hx hb dX4_end_213 (by decide) ?_
                        refine lv_iload_n hx hb dX4_end_215 rfl (lv_at hl 1 rfl) ?_
                        refine lv_iconst (v := nI 1) hx hb dX4_end_216 (by decide) ?_
                        refine lv_isub hx hb dX4_end_217 ?_
                        refine hl_top (show _ = nI 2 by decide) ?_
                        refine lv_iload hx hb dX4_end_218 (lv_at hl 0 rfl) ?_
                        refine lv_isub hx hb dX4_end_220 ?_
                        refine hl_top (show _ = nI 0 by decide) ?_
                        refine lv_imul hx hb dX4_end_221 ?_
                        refine hl_top (show _ = nI 0 by decide) ?_
                        refine lv_ishr hx hb dX4_end_222 ?_
                        refine lv_sipush (v := nI 255) hx hb dX4_end_223 (by decide) ?_
                        refine lv_iand hx hb dX4_end_226 ?_
                        refine hl_top (shr_and (n := wr - (op (on - 1) + 1)) (k := 0) (by omega) (nI 0 &&& 31) (by decide)) ?_
                        refine hl_iast hx hb hK hP hD hS 8 0 rfl rfl (by omega) (by decide) dX4_end_227 (fun H locs hP hD hS => ?_)
                        have hP : va_P (dC, dI) vwCl (wM cA m0 m1 m2 m3 m4 m5 m6 m7 m8 m9 (nI 0) row sz1 nd tg st ln pa rd of ar dp at_ rs fd pl tx1 (va_up (va_up (va_up ou1 ((op (on - 1)) + 1) 130) (((op (on - 1)) + 1) + 1) ((wr - (op (on - 1) + 1)) / 2 ^ 8 % 256)) (((op (on - 1)) + 1) + 2) ((wr - (op (on - 1) + 1)) / 2 ^ 0 % 256)) wr op on dn) H := hP
                        have hD : va_D A (wM cA m0 m1 m2 m3 m4 m5 m6 m7 m8 m9 (nI 0) row sz1 nd tg st ln pa rd of ar dp at_ rs fd pl tx1 (va_up (va_up (va_up ou1 ((op (on - 1)) + 1) 130) (((op (on - 1)) + 1) + 1) ((wr - (op (on - 1) + 1)) / 2 ^ 8 % 256)) (((op (on - 1)) + 1) + 2) ((wr - (op (on - 1) + 1)) / 2 ^ 0 % 256)) wr op on dn) := hD
                        refine lv_iinc (v := (nI 3)) (lv' := [(4, .int (nI 3)), (3, .int (nI 3)), (2, .int (nI (wr - (op (on - 1) + 1)))), (1, .int (nI (op (on - 1)))), (0, .ref m0)]) hx hb dX4_end_228 hl (k := 0) rfl (by decide) (by decide) rfl (fun ls hl => ?_)
                        refine lv_goto (tgt := 196) hx hb dX4_end_231 (by decide) ?_
                        refine lv_iload hx hb dX4_end_196 (lv_at hl 0 rfl) ?_
                        refine lv_iload_n hx hb dX4_end_198 rfl (lv_at hl 1 rfl) ?_
                        refine hl_icmp_ge (tgt := 234) hx hb dX4_end_199 (by decide) (by omega) (by omega) (fun c_14 => ?_) (fun c_14 => absurd c_14 (by decide))
                        refine lv_aload_n hx hb dX4_end_234 rfl (lv_at hl 4 rfl) ?_
                        refine lv_dup hx hb dX4_end_235 rfl ?_
                        refine va_get (D := (dC, dI)) (ci := 3) (v := .int (nI wr)) (C := RX4) (T := TX4) (N := 22) hx hb hts hinX4 hown hK hP 0 rfl rfl 18 (by decide) hf_112 (fun _ h9 => h9) rfl dX4_end_236 ?_
                        refine lv_iload_n hx hb dX4_end_239 rfl (lv_at hl 1 rfl) ?_
                        refine hl_iadd hx hb dX4_end_240 ?_
                        refine va_put (D := (dC, dI)) (ci := 3) (v := .int (nI (wr + 3))) (ty := .int) (C := RX4) (T := TX4) (N := 22) hx hb hts hinX4 tyX4 tyX4_ok nmX4 hown hK hP hD hS 0 rfl rfl 18 (by decide) hf_112 (fun _ h9 => h9) rfl (by decide +kernel) rfl rfl (Nat.le_of_ble_eq_true rfl) dX4_end_241 (fun H locs hP hD hS => ?_)
                        have hP : va_P (dC, dI) vwCl (wM cA m0 m1 m2 m3 m4 m5 m6 m7 m8 m9 (nI 0) row sz1 nd tg st ln pa rd of ar dp at_ rs fd pl tx1 (va_up (va_up (va_up ou1 ((op (on - 1)) + 1) 130) (((op (on - 1)) + 1) + 1) ((wr - (op (on - 1) + 1)) / 2 ^ 8 % 256)) (((op (on - 1)) + 1) + 2) ((wr - (op (on - 1) + 1)) / 2 ^ 0 % 256)) (wr + 3) op on dn) H := hP
                        have hD : va_D A (wM cA m0 m1 m2 m3 m4 m5 m6 m7 m8 m9 (nI 0) row sz1 nd tg st ln pa rd of ar dp at_ rs fd pl tx1 (va_up (va_up (va_up ou1 ((op (on - 1)) + 1) 130) (((op (on - 1)) + 1) + 1) ((wr - (op (on - 1) + 1)) / 2 ^ 8 % 256)) (((op (on - 1)) + 1) + 2) ((wr - (op (on - 1) + 1)) / 2 ^ 0 % 256)) (wr + 3) op on dn) := hD
                        refine lv_aload_n hx hb dX4_end_244 rfl (lv_at hl 4 rfl) ?_
                        refine lv_dup hx hb dX4_end_245 rfl ?_
                        refine va_get (D := (dC, dI)) (ci := 3) (v := .int (nI on)) (C := RX4) (T := TX4) (N := 22) hx hb hts hinX4 hown hK hP 0 rfl rfl 20 (by decide) hf_115 (fun _ h9 => h9) rfl dX4_end_246 ?_
                        refine lv_iconst (v := nI 1) hx hb dX4_end_249 (by decide) ?_
                        refine hl_isub hx hb (by omega) dX4_end_250 ?_
                        refine va_put (D := (dC, dI)) (ci := 3) (v := .int (nI (on - 1))) (ty := .int) (C := RX4) (T := TX4) (N := 22) hx hb hts hinX4 tyX4 tyX4_ok nmX4 hown hK hP hD hS 0 rfl rfl 20 (by decide) hf_115 (fun _ h9 => h9) rfl (by decide +kernel) rfl rfl (Nat.le_of_ble_eq_true rfl) dX4_end_251 (fun H locs hP hD hS => ?_)
                        have hP : va_P (dC, dI) vwCl (wM cA m0 m1 m2 m3 m4 m5 m6 m7 m8 m9 (nI 0) row sz1 nd tg st ln pa rd of ar dp at_ rs fd pl tx1 (va_up (va_up (va_up ou1 ((op (on - 1)) + 1) 130) (((op (on - 1)) + 1) + 1) ((wr - (op (on - 1) + 1)) / 2 ^ 8 % 256)) (((op (on - 1)) + 1) + 2) ((wr - (op (on - 1) + 1)) / 2 ^ 0 % 256)) (wr + 3) op (on - 1) dn) H := hP
                        have hD : va_D A (wM cA m0 m1 m2 m3 m4 m5 m6 m7 m8 m9 (nI 0) row sz1 nd tg st ln pa rd of ar dp at_ rs fd pl tx1 (va_up (va_up (va_up ou1 ((op (on - 1)) + 1) 130) (((op (on - 1)) + 1) + 1) ((wr - (op (on - 1) + 1)) / 2 ^ 8 % 256)) (((op (on - 1)) + 1) + 2) ((wr - (op (on - 1) + 1)) / 2 ^ 0 % 256)) (wr + 3) op (on - 1) dn) := hD
                        refine lv_aload_n hx hb dX4_end_254 rfl (lv_at hl 4 rfl) ?_
                        refine lv_aload_n hx hb dX4_end_255 rfl (lv_at hl 4 rfl) ?_
                        refine va_get (D := (dC, dI)) (ci := 3) (v := .int (nI (on - 1))) (C := RX4) (T := TX4) (N := 22) hx hb hts hinX4 hown hK hP 0 rfl rfl 20 (by decide) hf_115 (fun _ h9 => h9) rfl dX4_end_256 ?_
                        refine hl_if_ne (tgt := 266) hx hb dX4_end_259 (by decide) (by omega) (fun c_15 => ?_) (fun c_15 => ?_)
                        · refine lv_iconst (v := nI 0) hx hb dX4_end_266 (by decide) ?_
                          refine va_put (D := (dC, dI)) (ci := 3) (v := .int (nI 0)) (ty := .boolean) (C := RX4) (T := TX4) (N := 22) hx hb hts hinX4 tyX4 tyX4_ok nmX4 hown hK hP hD hS 0 rfl rfl 21 (by decide) hf_118 (fun _ h9 => h9) rfl (by decide +kernel) rfl rfl (Nat.le_of_ble_eq_true rfl) dX4_end_267 (fun H locs hP hD hS => ?_)
                          have hP : va_P (dC, dI) vwCl (wM cA m0 m1 m2 m3 m4 m5 m6 m7 m8 m9 (nI 0) row sz1 nd tg st ln pa rd of ar dp at_ rs fd pl tx1 (va_up (va_up (va_up ou1 ((op (on - 1)) + 1) 130) (((op (on - 1)) + 1) + 1) ((wr - (op (on - 1) + 1)) / 2 ^ 8 % 256)) (((op (on - 1)) + 1) + 2) ((wr - (op (on - 1) + 1)) / 2 ^ 0 % 256)) (wr + 3) op (on - 1) 0) H := hP
                          have hD : va_D A (wM cA m0 m1 m2 m3 m4 m5 m6 m7 m8 m9 (nI 0) row sz1 nd tg st ln pa rd of ar dp at_ rs fd pl tx1 (va_up (va_up (va_up ou1 ((op (on - 1)) + 1) 130) (((op (on - 1)) + 1) + 1) ((wr - (op (on - 1) + 1)) / 2 ^ 8 % 256)) (((op (on - 1)) + 1) + 2) ((wr - (op (on - 1) + 1)) / 2 ^ 0 % 256)) (wr + 3) op (on - 1) 0) := hD
                          refine lv_iconst (v := nI 0) hx hb dX4_end_270 (by decide) ?_
                          have hP9 : va_P (dC, dI) vwCl (vX4_end cA m0 m1 m2 m3 m4 m5 m6 m7 m8 m9 cd row sz1 nd tg st ln pa rd of ar dp at_ rs fd pl tx ou wr op on dn (nI 0, va_up (va_up (va_up ou1 ((op (on - 1)) + 1) 130) (((op (on - 1)) + 1) + 1) ((wr - (op (on - 1) + 1)) / 2 ^ 8 % 256)) (((op (on - 1)) + 1) + 2) ((wr - (op (on - 1) + 1)) / 2 ^ 0 % 256), wr + 3, on - 1, 0, tx1)) _ := hP
                          have hD9 : va_D A (vX4_end cA m0 m1 m2 m3 m4 m5 m6 m7 m8 m9 cd row sz1 nd tg st ln pa rd of ar dp at_ rs fd pl tx ou wr op on dn (nI 0, va_up (va_up (va_up ou1 ((op (on - 1)) + 1) 130) (((op (on - 1)) + 1) + 1) ((wr - (op (on - 1) + 1)) / 2 ^ 8 % 256)) (((op (on - 1)) + 1) + 2) ((wr - (op (on - 1) + 1)) / 2 ^ 0 % 256), wr + 3, on - 1, 0, tx1)) := hD
                          have hq9 : pX4_end m0 m1 m2 m3 m4 m5 m6 m7 m8 m9 cd row sz1 nd tg st ln pa rd of ar dp at_ rs fd pl tx ou wr op on dn (nI 0) (nI 0, va_up (va_up (va_up ou1 ((op (on - 1)) + 1) 130) (((op (on - 1)) + 1) + 1) ((wr - (op (on - 1) + 1)) / 2 ^ 8 % 256)) (((op (on - 1)) + 1) + 2) ((wr - (op (on - 1) + 1)) / 2 ^ 0 % 256), wr + 3, on - 1, 0, tx1) := (by have e : enC on wr ou op = 0 := (by unfold enC; rw [if_neg (by omega), if_neg (fun h => h (by show okC _ _ _ _ = true; rw [← hcon]; assumption)), if_neg (by show ¬ 300 < wr + lenSz (wr - (op (on - 1) + 1)); rw [hz]; omega)]); exact ⟨⟨e.symm, Or.inl ⟨e, by omega, (by show wr + lenSz (wr - (op (on - 1) + 1)) ≤ 300; rw [hz]; omega), ⟨fun j hj => by rw [up_ne _ _ (by omega), up_ne _ _ (by omega), up_ne _ _ (by omega)]; exact h1 j (by omega), fun i hi => by show _ = lnB (wr - (op (on - 1) + 1)) (lenSz (wr - (op (on - 1) + 1))) i; rw [hz]; replace hi : i < lenSz (wr - (op (on - 1) + 1)) := hi; rw [hz] at hi; rcases (show i = 0 ∨ i = 1 ∨ i = 2 by omega) with e | e | e <;> subst e <;> simp [va_up, lnB], fun j ha hb => by show _ = ou j; rw [show j + lenSz (enN on wr op) = op (on - 1) + 1 + 3 + (j - (op (on - 1) + 1)) by show j + lenSz (wr - (op (on - 1) + 1)) = _; rw [hz]; omega, up_ne _ _ (by omega), up_ne _ _ (by omega), up_ne _ _ (by omega), h2 _ (by omega) (by omega), hc2 _ (by omega)]; congr 1; omega⟩, (by show _ = wr + lenSz (wr - (op (on - 1) + 1)); rw [hz]), rfl, (by first | rw [if_pos (by omega)] | rw [if_neg (by omega)])⟩, (up_lt (up_lt (up_lt hb2 (by omega)) (by omega)) (by omega)), hb1⟩, rfl⟩)
                          exact W.iret (v := nI 0) hx hb hr (fun t ht hW => ⟨⟨nI 0, (nI 0, va_up (va_up (va_up ou1 ((op (on - 1)) + 1) 130) (((op (on - 1)) + 1) + 1) ((wr - (op (on - 1) + 1)) / 2 ^ 8 % 256)) (((op (on - 1)) + 1) + 2) ((wr - (op (on - 1) + 1)) / 2 ^ 0 % 256), wr + 3, on - 1, 0, tx1), rfl, hq9, by rw [ht]; exact hP9, va_K.moved hW.alike hK, hD9⟩, hS.F ht⟩) hS.2.2 dX4_end_271
                        · refine lv_iconst (v := nI 1) hx hb dX4_end_262 (by decide) ?_
                          refine lv_goto (tgt := 267) hx hb dX4_end_263 (by decide) ?_
                          refine va_put (D := (dC, dI)) (ci := 3) (v := .int (nI 1)) (ty := .boolean) (C := RX4) (T := TX4) (N := 22) hx hb hts hinX4 tyX4 tyX4_ok nmX4 hown hK hP hD hS 0 rfl rfl 21 (by decide) hf_118 (fun _ h9 => h9) rfl (by decide +kernel) rfl rfl (Nat.le_of_ble_eq_true rfl) dX4_end_267 (fun H locs hP hD hS => ?_)
                          have hP : va_P (dC, dI) vwCl (wM cA m0 m1 m2 m3 m4 m5 m6 m7 m8 m9 (nI 0) row sz1 nd tg st ln pa rd of ar dp at_ rs fd pl tx1 (va_up (va_up (va_up ou1 ((op (on - 1)) + 1) 130) (((op (on - 1)) + 1) + 1) ((wr - (op (on - 1) + 1)) / 2 ^ 8 % 256)) (((op (on - 1)) + 1) + 2) ((wr - (op (on - 1) + 1)) / 2 ^ 0 % 256)) (wr + 3) op (on - 1) 1) H := hP
                          have hD : va_D A (wM cA m0 m1 m2 m3 m4 m5 m6 m7 m8 m9 (nI 0) row sz1 nd tg st ln pa rd of ar dp at_ rs fd pl tx1 (va_up (va_up (va_up ou1 ((op (on - 1)) + 1) 130) (((op (on - 1)) + 1) + 1) ((wr - (op (on - 1) + 1)) / 2 ^ 8 % 256)) (((op (on - 1)) + 1) + 2) ((wr - (op (on - 1) + 1)) / 2 ^ 0 % 256)) (wr + 3) op (on - 1) 1) := hD
                          refine lv_iconst (v := nI 0) hx hb dX4_end_270 (by decide) ?_
                          have hP9 : va_P (dC, dI) vwCl (vX4_end cA m0 m1 m2 m3 m4 m5 m6 m7 m8 m9 cd row sz1 nd tg st ln pa rd of ar dp at_ rs fd pl tx ou wr op on dn (nI 0, va_up (va_up (va_up ou1 ((op (on - 1)) + 1) 130) (((op (on - 1)) + 1) + 1) ((wr - (op (on - 1) + 1)) / 2 ^ 8 % 256)) (((op (on - 1)) + 1) + 2) ((wr - (op (on - 1) + 1)) / 2 ^ 0 % 256), wr + 3, on - 1, 1, tx1)) _ := hP
                          have hD9 : va_D A (vX4_end cA m0 m1 m2 m3 m4 m5 m6 m7 m8 m9 cd row sz1 nd tg st ln pa rd of ar dp at_ rs fd pl tx ou wr op on dn (nI 0, va_up (va_up (va_up ou1 ((op (on - 1)) + 1) 130) (((op (on - 1)) + 1) + 1) ((wr - (op (on - 1) + 1)) / 2 ^ 8 % 256)) (((op (on - 1)) + 1) + 2) ((wr - (op (on - 1) + 1)) / 2 ^ 0 % 256), wr + 3, on - 1, 1, tx1)) := hD
                          have hq9 : pX4_end m0 m1 m2 m3 m4 m5 m6 m7 m8 m9 cd row sz1 nd tg st ln pa rd of ar dp at_ rs fd pl tx ou wr op on dn (nI 0) (nI 0, va_up (va_up (va_up ou1 ((op (on - 1)) + 1) 130) (((op (on - 1)) + 1) + 1) ((wr - (op (on - 1) + 1)) / 2 ^ 8 % 256)) (((op (on - 1)) + 1) + 2) ((wr - (op (on - 1) + 1)) / 2 ^ 0 % 256), wr + 3, on - 1, 1, tx1) := (by have e : enC on wr ou op = 0 := (by unfold enC; rw [if_neg (by omega), if_neg (fun h => h (by show okC _ _ _ _ = true; rw [← hcon]; assumption)), if_neg (by show ¬ 300 < wr + lenSz (wr - (op (on - 1) + 1)); rw [hz]; omega)]); exact ⟨⟨e.symm, Or.inl ⟨e, by omega, (by show wr + lenSz (wr - (op (on - 1) + 1)) ≤ 300; rw [hz]; omega), ⟨fun j hj => by rw [up_ne _ _ (by omega), up_ne _ _ (by omega), up_ne _ _ (by omega)]; exact h1 j (by omega), fun i hi => by show _ = lnB (wr - (op (on - 1) + 1)) (lenSz (wr - (op (on - 1) + 1))) i; rw [hz]; replace hi : i < lenSz (wr - (op (on - 1) + 1)) := hi; rw [hz] at hi; rcases (show i = 0 ∨ i = 1 ∨ i = 2 by omega) with e | e | e <;> subst e <;> simp [va_up, lnB], fun j ha hb => by show _ = ou j; rw [show j + lenSz (enN on wr op) = op (on - 1) + 1 + 3 + (j - (op (on - 1) + 1)) by show j + lenSz (wr - (op (on - 1) + 1)) = _; rw [hz]; omega, up_ne _ _ (by omega), up_ne _ _ (by omega), up_ne _ _ (by omega), h2 _ (by omega) (by omega), hc2 _ (by omega)]; congr 1; omega⟩, (by show _ = wr + lenSz (wr - (op (on - 1) + 1)); rw [hz]), rfl, (by first | rw [if_pos (by omega)] | rw [if_neg (by omega)])⟩, (up_lt (up_lt (up_lt hb2 (by omega)) (by omega)) (by omega)), hb1⟩, rfl⟩)
                          exact W.iret (v := nI 0) hx hb hr (fun t ht hW => ⟨⟨nI 0, (nI 0, va_up (va_up (va_up ou1 ((op (on - 1)) + 1) 130) (((op (on - 1)) + 1) + 1) ((wr - (op (on - 1) + 1)) / 2 ^ 8 % 256)) (((op (on - 1)) + 1) + 2) ((wr - (op (on - 1) + 1)) / 2 ^ 0 % 256), wr + 3, on - 1, 1, tx1), rfl, hq9, by rw [ht]; exact hP9, va_K.moved hW.alike hK, hD9⟩, hS.F ht⟩) hS.2.2 dX4_end_271
                      | succ q =>
                        have hl : lv_has ls 5 [(4, .int (nI q)), (3, .int (nI 3)), (2, .int (nI (wr - (op (on - 1) + 1)))), (1, .int (nI (op (on - 1)))), (0, .ref m0)] := hl
                        refine lv_iload hx hb dX4_end_141 (lv_at hl 0 rfl) ?_
                        refine hl_if_lt (tgt := 172) hx hb dX4_end_143 (by decide) (by omega) (fun c_16 => absurd c_16 (by omega)) (fun c_16 => ?_)
                        refine lv_aload_n hx hb dX4_end_146 rfl (lv_at hl 4 rfl) ?_
                        refine va_get (D := (dC, dI)) (ci := 3) (v := .ref m8) (C := RX4) (T := TX4) (N := 22) hx hb hts hinX4 hown hK hP 0 rfl rfl 17 (by decide) hf_35 (fun _ h9 => h9) rfl dX4_end_147 ?_
                        refine lv_iload_n hx hb dX4_end_150 rfl (lv_at hl 3 rfl) ?_
                        refine lv_iconst (v := nI 1) hx hb dX4_end_151 (by decide) ?_
                        refine hl_iadd hx hb dX4_end_152 ?_
                        refine lv_iload_n hx hb dX4_end_153 rfl (lv_at hl 1 rfl) ?_
                        refine hl_iadd hx hb dX4_end_154 ?_
                        refine lv_iload hx hb dX4_end_155 (lv_at hl 0 rfl) ?_
                        refine hl_iadd hx hb dX4_end_157 ?_
                        refine lv_aload_n hx hb dX4_end_158 rfl (lv_at hl 4 rfl) ?_
                        refine va_get (D := (dC, dI)) (ci := 3) (v := .ref m7) (C := RX4) (T := TX4) (N := 22) hx hb hts hinX4 hown hK hP 0 rfl rfl 16 (by decide) hf_32 (fun _ h9 => h9) rfl dX4_end_159 ?_
                        refine lv_iload hx hb dX4_end_162 (lv_at hl 0 rfl) ?_
                        refine hl_iald hx hb hK hP 7 0 rfl rfl (by omega) (by decide) dX4_end_164 ?_
                        refine hl_iast hx hb hK hP hD hS 8 0 rfl rfl (by omega) (by decide) dX4_end_165 (fun H locs hP hD hS => ?_)
                        have hP : va_P (dC, dI) vwCl (wM cA m0 m1 m2 m3 m4 m5 m6 m7 m8 m9 (nI 0) row sz1 nd tg st ln pa rd of ar dp at_ rs fd pl tx1 (va_up ou1 ((((op (on - 1)) + 1) + 3) + q) (tx1 q)) wr op on dn) H := hP
                        have hD : va_D A (wM cA m0 m1 m2 m3 m4 m5 m6 m7 m8 m9 (nI 0) row sz1 nd tg st ln pa rd of ar dp at_ rs fd pl tx1 (va_up ou1 ((((op (on - 1)) + 1) + 3) + q) (tx1 q)) wr op on dn) := hD
                        refine lv_iinc (v := (mI q)) (lv' := [(4, .int (mI q)), (3, .int (nI 3)), (2, .int (nI (wr - (op (on - 1) + 1)))), (1, .int (nI (op (on - 1)))), (0, .ref m0)]) hx hb dX4_end_166 hl (k := 0) rfl (mI_dec q) (by decide) rfl (fun ls hl => ?_)
                        refine lv_goto (tgt := 141) hx hb dX4_end_169 (by decide) ?_
                        exact ih_141 q (va_up ou1 ((((op (on - 1)) + 1) + 3) + q) (tx1 q)) (by omega) (by omega) (fun j hj => by rw [up_ne _ _ (by omega)]; exact h1 j (by omega)) (fun j ha hb => by by_cases e : j = q; rw [e, up_eq]; rw [up_ne _ _ (by omega)]; exact h2 j (by omega) hb) (up_lt hb2 (hb1 _)) _ _ _ hP hD hS (lv_sub hl [0, 1, 2, 3, 4] rfl)
                  exact lp_141 ((wr - (op (on - 1) + 1)) + 1) (wr - (op (on - 1) + 1)) ou (Nat.lt_succ_self _) (by omega) (fun j _ => rfl) (fun j ha hb => absurd hb (by omega)) hou _ _ _ hP hD hS (lv_sub hl [0, 1, 2, 3, 4] rfl)
                · refine lv_bipush (v := (-3)) hx hb dX4_end_133 (by decide) ?_
                  have hP9 : va_P (dC, dI) vwCl (vX4_end cA m0 m1 m2 m3 m4 m5 m6 m7 m8 m9 cd row sz1 nd tg st ln pa rd of ar dp at_ rs fd pl tx ou wr op on dn (nI 0, ou, wr, on, dn, tx1)) _ := hP
                  have hD9 : va_D A (vX4_end cA m0 m1 m2 m3 m4 m5 m6 m7 m8 m9 cd row sz1 nd tg st ln pa rd of ar dp at_ rs fd pl tx ou wr op on dn (nI 0, ou, wr, on, dn, tx1)) := hD
                  have hq9 : pX4_end m0 m1 m2 m3 m4 m5 m6 m7 m8 m9 cd row sz1 nd tg st ln pa rd of ar dp at_ rs fd pl tx ou wr op on dn ((-3)) (nI 0, ou, wr, on, dn, tx1) := (by have e : enC on wr ou op = (-3) := (by unfold enC; rw [if_neg (by omega), if_neg (fun h => h (by show okC _ _ _ _ = true; rw [← hcon]; assumption)), if_pos (by show 300 < wr + lenSz (wr - (op (on - 1) + 1)); rw [hz]; omega)]); exact ⟨⟨e.symm, Or.inr (Or.inr ⟨by rw [e]; decide, by rw [e]; decide, rfl, rfl, rfl, rfl⟩), hou, hb1⟩, rfl⟩)
                  exact W.iret (v := (-3)) hx hb hr (fun t ht hW => ⟨⟨(-3), (nI 0, ou, wr, on, dn, tx1), rfl, hq9, by rw [ht]; exact hP9, va_K.moved hW.alike hK, hD9⟩, hS.F ht⟩) hS.2.2 dX4_end_135
              · refine lv_iconst (v := nI 2) hx hb dX4_end_115 (by decide) ?_
                refine lv_goto (tgt := 120) hx hb dX4_end_116 (by decide) ?_
                refine lv_istore_n (lv' := [(3, .int (nI 2)), (2, .int (nI (wr - (op (on - 1) + 1)))), (1, .int (nI (op (on - 1)))), (0, .ref m0)]) hx hb dX4_end_120 rfl hl (by decide) rfl (fun ls hl => ?_)
                have hz : lenSz (wr - (op (on - 1) + 1)) = 2 := by unfold lenSz; first | rw [if_pos (by omega)] | rw [if_neg (by omega), if_pos (by omega)] | rw [if_neg (by omega), if_neg (by omega)]
                refine lv_aload_n hx hb dX4_end_121 rfl (lv_at hl 3 rfl) ?_
                refine va_get (D := (dC, dI)) (ci := 3) (v := .int (nI wr)) (C := RX4) (T := TX4) (N := 22) hx hb hts hinX4 hown hK hP 0 rfl rfl 18 (by decide) hf_112 (fun _ h9 => h9) rfl dX4_end_122 ?_
                refine lv_iload_n hx hb dX4_end_125 rfl (lv_at hl 0 rfl) ?_
                refine hl_iadd hx hb dX4_end_126 ?_
                refine lv_sipush (v := nI 300) hx hb dX4_end_127 (by decide) ?_
                refine hl_icmp_le (tgt := 136) hx hb dX4_end_130 (by decide) (by omega) (by omega) (fun c_17 => ?_) (fun c_17 => ?_)
                · refine lv_iload_n hx hb dX4_end_136 rfl (lv_at hl 1 rfl) ?_
                  refine lv_iconst (v := nI 1) hx hb dX4_end_137 (by decide) ?_
                  refine lv_isub hx hb dX4_end_138 ?_
                  rw [show nI (wr - (op (on - 1) + 1)) - nI 1 = mI (wr - (op (on - 1) + 1)) from mI_sub (wr - (op (on - 1) + 1))]
                  refine lv_istore (lv' := [(4, .int (mI (wr - (op (on - 1) + 1)))), (3, .int (nI 2)), (2, .int (nI (wr - (op (on - 1) + 1)))), (1, .int (nI (op (on - 1)))), (0, .ref m0)]) hx hb dX4_end_139 hl (by decide) rfl (fun ls hl => ?_)
                  have lp_141 : ∀ (nf : Nat) (q : Nat) (ou1 : Nat → Nat), q < nf → (q ≤ wr - (op (on - 1) + 1)) → (∀ j, j < op (on - 1) + 1 + 2 + q → ou1 j = ou j) → (∀ j, q ≤ j → j < wr - (op (on - 1) + 1) → ou1 (op (on - 1) + 1 + 2 + j) = tx1 j) → (∀ j, ou1 j < 256) → ∀ (H : Heap) (locs : List Loc) (ls : Array Slot), va_P (dC, dI) vwCl (wM cA m0 m1 m2 m3 m4 m5 m6 m7 m8 m9 (nI 0) row sz1 nd tg st ln pa rd of ar dp at_ rs fd pl tx1 ou1 wr op on dn) H → va_D A (wM cA m0 m1 m2 m3 m4 m5 m6 m7 m8 m9 (nI 0) row sz1 nd tg st ln pa rd of ar dp at_ rs fd pl tx1 ou1 wr op on dn) → va_S A s.heap H locs → lv_has ls 5 [(4, .int (mI q)), (3, .int (nI 2)), (2, .int (nI (wr - (op (on - 1) + 1)))), (1, .int (nI (op (on - 1)))), (0, .ref m0)] → W p l e (headSpec wsX4_end ({ frames := 1, cells := 0, slots := 0, locals := 25 } : Room)).room s m ([.ref m0] : List Value).toArray below meth c H locs 0 0 (MQ below (qX4_end dC dI cA A m0 m1 m2 m3 m4 m5 m6 m7 m8 m9 cd row sz1 nd tg st ln pa rd of ar dp at_ rs fd pl tx ou wr op on dn) ([.ref m0] : List Value).toArray s 0 0 A) (F0 m 141 ls []) := by
                    intro nf
                    induction nf with
                    | zero =>
                      intro q ou1 hm
                      exact absurd hm (Nat.not_lt_zero _)
                    | succ nf ih_141 =>
                      intro q ou1 hm hk2 h1 h2 hb2 H locs ls hP hD hS hl
                      cases q with
                      | zero =>
                        refine lv_iload hx hb dX4_end_141 (lv_at hl 0 rfl) ?_
                        refine lv_if_lt (tgt := 172) hx hb dX4_end_143 (by decide) (fun c_19 => ?_) (fun c_19 => absurd (by decide) c_19)
                        refine lv_aload_n hx hb dX4_end_172 rfl (lv_at hl 4 rfl) ?_
                        refine va_get (D := (dC, dI)) (ci := 3) (v := .ref m8) (C := RX4) (T := TX4) (N := 22) hx hb hts hinX4 hown hK hP 0 rfl rfl 17 (by decide) hf_35 (fun _ h9 => h9) rfl dX4_end_173 ?_
                        refine lv_iload_n hx hb dX4_end_176 rfl (lv_at hl 3 rfl) ?_
                        refine lv_iconst (v := nI 1) hx hb dX4_end_177 (by decide) ?_
                        refine hl_iadd hx hb dX4_end_178 ?_
                        refine lv_iload_n hx hb dX4_end_179 rfl (lv_at hl 1 rfl) ?_
                        refine lv_iconst (v := nI 1) hx hb dX4_end_180 (by decide) ?_
                        refine hl_icmp_ne (tgt := 188) hx hb dX4_end_181 (by decide) (by omega) (by omega) (fun c_20 => ?_) (fun c_20 => absurd c_20 (by decide))
                        refine lv_bipush (v := nI 127) hx hb dX4_end_188 (by decide) ?_
                        refine lv_iload_n hx hb dX4_end_190 rfl (lv_at hl 1 rfl) ?_
                        refine lv_iadd hx hb dX4_end_191 ?_
                        refine hl_top (show _ = nI 129 by decide) ?_
                        refine hl_iast hx hb hK hP hD hS 8 0 rfl rfl (by omega) (by decide) dX4_end_192 (fun H locs hP hD hS => ?_)
                        have hP : va_P (dC, dI) vwCl (wM cA m0 m1 m2 m3 m4 m5 m6 m7 m8 m9 (nI 0) row sz1 nd tg st ln pa rd of ar dp at_ rs fd pl tx1 (va_up ou1 ((op (on - 1)) + 1) 129) wr op on dn) H := hP
                        have hD : va_D A (wM cA m0 m1 m2 m3 m4 m5 m6 m7 m8 m9 (nI 0) row sz1 nd tg st ln pa rd of ar dp at_ rs fd pl tx1 (va_up ou1 ((op (on - 1)) + 1) 129) wr op on dn) := hD
                        refine lv_iconst (v := nI 1) hx hb dX4_end_193 (by decide) ?_
                        refine lv_istore (lv' := [(4, .int (nI 1)), (3, .int (nI 2)), (2, .int (nI (wr - (op (on - 1) + 1)))), (1, .int (nI (op (on - 1)))), (0, .ref m0)]) hx hb dX4_end_194 hl (by decide) rfl (fun ls hl => ?_)
                        refine lv_iload hx hb dX4_end_196 (lv_at hl 0 rfl) ?_
                        refine lv_iload_n hx hb dX4_end_198 rfl (lv_at hl 1 rfl) ?_
                        refine hl_icmp_ge (tgt := 234) hx hb dX4_end_199 (by decide) (by omega) (by omega) (fun c_21 => absurd c_21 (by decide)) (fun c_21 => ?_)
                        refine lv_aload_n hx hb dX4_end_202 rfl (lv_at hl 4 rfl) ?_
                        refine va_get (D := (dC, dI)) (ci := 3) (v := .ref m8) (C := RX4) (T := TX4) (N := 22) hx hb hts hinX4 hown hK hP 0 rfl rfl 17 (by decide) hf_35 (fun _ h9 => h9) rfl dX4_end_203 ?_
                        refine lv_iload_n hx hb dX4_end_206 rfl (lv_at hl 3 rfl) ?_
                        refine lv_iconst (v := nI 1) hx hb dX4_end_207 (by decide) ?_
                        refine hl_iadd hx hb dX4_end_208 ?_
                        refine lv_iload hx hb dX4_end_209 (lv_at hl 0 rfl) ?_
                        refine hl_iadd hx hb dX4_end_211 ?_
                        refine lv_iload_n hx hb dX4_end_212 rfl (lv_at hl 2 rfl) ?_
                        refine lv_bipush (v := nI 8) hx hb dX4_end_213 (by decide) ?_
                        refine lv_iload_n hx hb dX4_end_215 rfl (lv_at hl 1 rfl) ?_
                        refine lv_iconst (v := nI 1) hx hb dX4_end_216 (by decide) ?_
                        refine lv_isub hx hb dX4_end_217 ?_
                        refine hl_top (show _ = nI 1 by decide) ?_
                        refine lv_iload hx hb dX4_end_218 (lv_at hl 0 rfl) ?_
                        refine lv_isub hx hb dX4_end_220 ?_
                        refine hl_top (show _ = nI 0 by decide) ?_
                        refine lv_imul hx hb dX4_end_221 ?_
                        refine hl_top (show _ = nI 0 by decide) ?_
                        refine lv_ishr hx hb dX4_end_222 ?_
                        refine lv_sipush (v := nI 255) hx hb dX4_end_223 (by decide) ?_
                        refine lv_iand hx hb dX4_end_226 ?_
                        refine hl_top (shr_and (n := wr - (op (on - 1) + 1)) (k := 0) (by omega) (nI 0 &&& 31) (by decide)) ?_
                        refine hl_iast hx hb hK hP hD hS 8 0 rfl rfl (by omega) (by decide) dX4_end_227 (fun H locs hP hD hS => ?_)
                        have hP : va_P (dC, dI) vwCl (wM cA m0 m1 m2 m3 m4 m5 m6 m7 m8 m9 (nI 0) row sz1 nd tg st ln pa rd of ar dp at_ rs fd pl tx1 (va_up (va_up ou1 ((op (on - 1)) + 1) 129) (((op (on - 1)) + 1) + 1) ((wr - (op (on - 1) + 1)) / 2 ^ 0 % 256)) wr op on dn) H := hP
                        have hD : va_D A (wM cA m0 m1 m2 m3 m4 m5 m6 m7 m8 m9 (nI 0) row sz1 nd tg st ln pa rd of ar dp at_ rs fd pl tx1 (va_up (va_up ou1 ((op (on - 1)) + 1) 129) (((op (on - 1)) + 1) + 1) ((wr - (op (on - 1) + 1)) / 2 ^ 0 % 256)) wr op on dn) := hD
                        refine lv_iinc (v := (nI 2)) (lv' := [(4, .int (nI 2)), (3, .int (nI 2)), (2, .int (nI (wr - (op (on - 1) + 1)))), (1, .int (nI (op (on - 1)))), (0, .ref m0)]) hx hb dX4_end_228 hl (k := 0) rfl (by decide) (by decide) rfl (fun ls hl => ?_)
                        refine lv_goto (tgt := 196) hx hb dX4_end_231 (by decide) ?_
                        refine lv_iload hx hb dX4_end_196 (lv_at hl 0 rfl) ?_
                        refine lv_iload_n hx hb dX4_end_198 rfl (lv_at hl 1 rfl) ?_
                        refine hl_icmp_ge (tgt := 234) hx hb dX4_end_199 (by decide) (by omega) (by omega) (fun c_22 => ?_) (fun c_22 => absurd c_22 (by decide))
                        refine lv_aload_n hx hb dX4_end_234 rfl (lv_at hl 4 rfl) ?_
                        refine lv_dup hx hb dX4_end_235 rfl ?_
                        refine va_get (D := (dC, dI)) (ci := 3) (v := .int (nI wr)) (C := RX4) (T := TX4) (N := 22) hx hb hts hinX4 hown hK hP 0 rfl rfl 18 (by decide) hf_112 (fun _ h9 => h9) rfl dX4_end_236 ?_
                        refine lv_iload_n hx hb dX4_end_239 rfl (lv_at hl 1 rfl) ?_
                        refine hl_iadd hx hb dX4_end_240 ?_
                        refine va_put (D := (dC, dI)) (ci := 3) (v := .int (nI (wr + 2))) (ty := .int) (C := RX4) (T := TX4) (N := 22) hx hb hts hinX4 tyX4 tyX4_ok nmX4 hown hK hP hD hS 0 rfl rfl 18 (by decide) hf_112 (fun _ h9 => h9) rfl (by decide +kernel) rfl rfl (Nat.le_of_ble_eq_true rfl) dX4_end_241 (fun H locs hP hD hS => ?_)
                        have hP : va_P (dC, dI) vwCl (wM cA m0 m1 m2 m3 m4 m5 m6 m7 m8 m9 (nI 0) row sz1 nd tg st ln pa rd of ar dp at_ rs fd pl tx1 (va_up (va_up ou1 ((op (on - 1)) + 1) 129) (((op (on - 1)) + 1) + 1) ((wr - (op (on - 1) + 1)) / 2 ^ 0 % 256)) (wr + 2) op on dn) H := hP
                        have hD : va_D A (wM cA m0 m1 m2 m3 m4 m5 m6 m7 m8 m9 (nI 0) row sz1 nd tg st ln pa rd of ar dp at_ rs fd pl tx1 (va_up (va_up ou1 ((op (on - 1)) + 1) 129) (((op (on - 1)) + 1) + 1) ((wr - (op (on - 1) + 1)) / 2 ^ 0 % 256)) (wr + 2) op on dn) := hD
                        refine lv_aload_n hx hb dX4_end_244 rfl (lv_at hl 4 rfl) ?_
                        refine lv_dup hx hb dX4_end_245 rfl ?_
                        refine va_get (D := (dC, dI)) (ci := 3) (v := .int (nI on)) (C := RX4) (T := TX4) (N := 22) hx hb hts hinX4 hown hK hP 0 rfl rfl 20 (by decide) hf_115 (fun _ h9 => h9) rfl dX4_end_246 ?_
                        refine lv_iconst (v := nI 1) hx hb dX4_end_249 (by decide) ?_
                        refine hl_isub hx hb (by omega) dX4_end_250 ?_
                        refine va_put (D := (dC, dI)) (ci := 3) (v := .int (nI (on - 1))) (ty := .int) (C := RX4) (T := TX4) (N := 22) hx hb hts hinX4 tyX4 tyX4_ok nmX4 hown hK hP hD hS 0 rfl rfl 20 (by decide) hf_115 (fun _ h9 => h9) rfl (by decide +kernel) rfl rfl (Nat.le_of_ble_eq_true rfl) dX4_end_251 (fun H locs hP hD hS => ?_)
                        have hP : va_P (dC, dI) vwCl (wM cA m0 m1 m2 m3 m4 m5 m6 m7 m8 m9 (nI 0) row sz1 nd tg st ln pa rd of ar dp at_ rs fd pl tx1 (va_up (va_up ou1 ((op (on - 1)) + 1) 129) (((op (on - 1)) + 1) + 1) ((wr - (op (on - 1) + 1)) / 2 ^ 0 % 256)) (wr + 2) op (on - 1) dn) H := hP
                        have hD : va_D A (wM cA m0 m1 m2 m3 m4 m5 m6 m7 m8 m9 (nI 0) row sz1 nd tg st ln pa rd of ar dp at_ rs fd pl tx1 (va_up (va_up ou1 ((op (on - 1)) + 1) 129) (((op (on - 1)) + 1) + 1) ((wr - (op (on - 1) + 1)) / 2 ^ 0 % 256)) (wr + 2) op (on - 1) dn) := hD
                        refine lv_aload_n hx hb dX4_end_254 rfl (lv_at hl 4 rfl) ?_
                        refine lv_aload_n hx hb dX4_end_255 rfl (lv_at hl 4 rfl) ?_
                        refine va_get (D := (dC, dI)) (ci := 3) (v := .int (nI (on - 1))) (C := RX4) (T := TX4) (N := 22) hx hb hts hinX4 hown hK hP 0 rfl rfl 20 (by decide) hf_115 (fun _ h9 => h9) rfl dX4_end_256 ?_
                        refine hl_if_ne (tgt := 266) hx hb dX4_end_259 (by decide) (by omega) (fun c_23 => ?_) (fun c_23 => ?_)
                        · refine lv_iconst (v := nI 0) hx hb dX4_end_266 (by decide) ?_
                          refine va_put (D := (dC, dI)) (ci := 3) (v := .int (nI 0)) (ty := .boolean) (C := RX4) (T := TX4) (N := 22) hx hb hts hinX4 tyX4 tyX4_ok nmX4 hown hK hP hD hS 0 rfl rfl 21 (by decide) hf_118 (fun _ h9 => h9) rfl (by decide +kernel) rfl rfl (Nat.le_of_ble_eq_true rfl) dX4_end_267 (fun H locs hP hD hS => ?_)
                          have hP : va_P (dC, dI) vwCl (wM cA m0 m1 m2 m3 m4 m5 m6 m7 m8 m9 (nI 0) row sz1 nd tg st ln pa rd of ar dp at_ rs fd pl tx1 (va_up (va_up ou1 ((op (on - 1)) + 1) 129) (((op (on - 1)) + 1) + 1) ((wr - (op (on - 1) + 1)) / 2 ^ 0 % 256)) (wr + 2) op (on - 1) 0) H := hP
                          have hD : va_D A (wM cA m0 m1 m2 m3 m4 m5 m6 m7 m8 m9 (nI 0) row sz1 nd tg st ln pa rd of ar dp at_ rs fd pl tx1 (va_up (va_up ou1 ((op (on - 1)) + 1) 129) (((op (on - 1)) + 1) + 1) ((wr - (op (on - 1) + 1)) / 2 ^ 0 % 256)) (wr + 2) op (on - 1) 0) := hD
                          refine lv_iconst (v := nI 0) hx hb dX4_end_270 (by decide) ?_
                          have hP9 : va_P (dC, dI) vwCl (vX4_end cA m0 m1 m2 m3 m4 m5 m6 m7 m8 m9 cd row sz1 nd tg st ln pa rd of ar dp at_ rs fd pl tx ou wr op on dn (nI 0, va_up (va_up ou1 ((op (on - 1)) + 1) 129) (((op (on - 1)) + 1) + 1) ((wr - (op (on - 1) + 1)) / 2 ^ 0 % 256), wr + 2, on - 1, 0, tx1)) _ := hP
                          have hD9 : va_D A (vX4_end cA m0 m1 m2 m3 m4 m5 m6 m7 m8 m9 cd row sz1 nd tg st ln pa rd of ar dp at_ rs fd pl tx ou wr op on dn (nI 0, va_up (va_up ou1 ((op (on - 1)) + 1) 129) (((op (on - 1)) + 1) + 1) ((wr - (op (on - 1) + 1)) / 2 ^ 0 % 256), wr + 2, on - 1, 0, tx1)) := hD
                          have hq9 : pX4_end m0 m1 m2 m3 m4 m5 m6 m7 m8 m9 cd row sz1 nd tg st ln pa rd of ar dp at_ rs fd pl tx ou wr op on dn (nI 0) (nI 0, va_up (va_up ou1 ((op (on - 1)) + 1) 129) (((op (on - 1)) + 1) + 1) ((wr - (op (on - 1) + 1)) / 2 ^ 0 % 256), wr + 2, on - 1, 0, tx1) := (by have e : enC on wr ou op = 0 := (by unfold enC; rw [if_neg (by omega), if_neg (fun h => h (by show okC _ _ _ _ = true; rw [← hcon]; assumption)), if_neg (by show ¬ 300 < wr + lenSz (wr - (op (on - 1) + 1)); rw [hz]; omega)]); exact ⟨⟨e.symm, Or.inl ⟨e, by omega, (by show wr + lenSz (wr - (op (on - 1) + 1)) ≤ 300; rw [hz]; omega), ⟨fun j hj => by rw [up_ne _ _ (by omega), up_ne _ _ (by omega)]; exact h1 j (by omega), fun i hi => by show _ = lnB (wr - (op (on - 1) + 1)) (lenSz (wr - (op (on - 1) + 1))) i; rw [hz]; replace hi : i < lenSz (wr - (op (on - 1) + 1)) := hi; rw [hz] at hi; rcases (show i = 0 ∨ i = 1 by omega) with e | e <;> subst e <;> simp [va_up, lnB], fun j ha hb => by show _ = ou j; rw [show j + lenSz (enN on wr op) = op (on - 1) + 1 + 2 + (j - (op (on - 1) + 1)) by show j + lenSz (wr - (op (on - 1) + 1)) = _; rw [hz]; omega, up_ne _ _ (by omega), up_ne _ _ (by omega), h2 _ (by omega) (by omega), hc2 _ (by omega)]; congr 1; omega⟩, (by show _ = wr + lenSz (wr - (op (on - 1) + 1)); rw [hz]), rfl, (by first | rw [if_pos (by omega)] | rw [if_neg (by omega)])⟩, (up_lt (up_lt hb2 (by omega)) (by omega)), hb1⟩, rfl⟩)
                          exact W.iret (v := nI 0) hx hb hr (fun t ht hW => ⟨⟨nI 0, (nI 0, va_up (va_up ou1 ((op (on - 1)) + 1) 129) (((op (on - 1)) + 1) + 1) ((wr - (op (on - 1) + 1)) / 2 ^ 0 % 256), wr + 2, on - 1, 0, tx1), rfl, hq9, by rw [ht]; exact hP9, va_K.moved hW.alike hK, hD9⟩, hS.F ht⟩) hS.2.2 dX4_end_271
                        · refine lv_iconst (v := nI 1) hx hb dX4_end_262 (by decide) ?_
                          refine lv_goto (tgt := 267) hx hb dX4_end_263 (by decide) ?_
                          refine va_put (D := (dC, dI)) (ci := 3) (v := .int (nI 1)) (ty := .boolean) (C := RX4) (T := TX4) (N := 22) hx hb hts hinX4 tyX4 tyX4_ok nmX4 hown hK hP hD hS 0 rfl rfl 21 (by decide) hf_118 (fun _ h9 => h9) rfl (by decide +kernel) rfl rfl (Nat.le_of_ble_eq_true rfl) dX4_end_267 (fun H locs hP hD hS => ?_)
                          have hP : va_P (dC, dI) vwCl (wM cA m0 m1 m2 m3 m4 m5 m6 m7 m8 m9 (nI 0) row sz1 nd tg st ln pa rd of ar dp at_ rs fd pl tx1 (va_up (va_up ou1 ((op (on - 1)) + 1) 129) (((op (on - 1)) + 1) + 1) ((wr - (op (on - 1) + 1)) / 2 ^ 0 % 256)) (wr + 2) op (on - 1) 1) H := hP
                          have hD : va_D A (wM cA m0 m1 m2 m3 m4 m5 m6 m7 m8 m9 (nI 0) row sz1 nd tg st ln pa rd of ar dp at_ rs fd pl tx1 (va_up (va_up ou1 ((op (on - 1)) + 1) 129) (((op (on - 1)) + 1) + 1) ((wr - (op (on - 1) + 1)) / 2 ^ 0 % 256)) (wr + 2) op (on - 1) 1) := hD
                          refine lv_iconst (v := nI 0) hx hb dX4_end_270 (by decide) ?_
                          have hP9 : va_P (dC, dI) vwCl (vX4_end cA m0 m1 m2 m3 m4 m5 m6 m7 m8 m9 cd row sz1 nd tg st ln pa rd of ar dp at_ rs fd pl tx ou wr op on dn (nI 0, va_up (va_up ou1 ((op (on - 1)) + 1) 129) (((op (on - 1)) + 1) + 1) ((wr - (op (on - 1) + 1)) / 2 ^ 0 % 256), wr + 2, on - 1, 1, tx1)) _ := hP
                          have hD9 : va_D A (vX4_end cA m0 m1 m2 m3 m4 m5 m6 m7 m8 m9 cd row sz1 nd tg st ln pa rd of ar dp at_ rs fd pl tx ou wr op on dn (nI 0, va_up (va_up ou1 ((op (on - 1)) + 1) 129) (((op (on - 1)) + 1) + 1) ((wr - (op (on - 1) + 1)) / 2 ^ 0 % 256), wr + 2, on - 1, 1, tx1)) := hD
                          have hq9 : pX4_end m0 m1 m2 m3 m4 m5 m6 m7 m8 m9 cd row sz1 nd tg st ln pa rd of ar dp at_ rs fd pl tx ou wr op on dn (nI 0) (nI 0, va_up (va_up ou1 ((op (on - 1)) + 1) 129) (((op (on - 1)) + 1) + 1) ((wr - (op (on - 1) + 1)) / 2 ^ 0 % 256), wr + 2, on - 1, 1, tx1) := (by have e : enC on wr ou op = 0 := (by unfold enC; rw [if_neg (by omega), if_neg (fun h => h (by show okC _ _ _ _ = true; rw [← hcon]; assumption)), if_neg (by show ¬ 300 < wr + lenSz (wr - (op (on - 1) + 1)); rw [hz]; omega)]); exact ⟨⟨e.symm, Or.inl ⟨e, by omega, (by show wr + lenSz (wr - (op (on - 1) + 1)) ≤ 300; rw [hz]; omega), ⟨fun j hj => by rw [up_ne _ _ (by omega), up_ne _ _ (by omega)]; exact h1 j (by omega), fun i hi => by show _ = lnB (wr - (op (on - 1) + 1)) (lenSz (wr - (op (on - 1) + 1))) i; rw [hz]; replace hi : i < lenSz (wr - (op (on - 1) + 1)) := hi; rw [hz] at hi; rcases (show i = 0 ∨ i = 1 by omega) with e | e <;> subst e <;> simp [va_up, lnB], fun j ha hb => by show _ = ou j; rw [show j + lenSz (enN on wr op) = op (on - 1) + 1 + 2 + (j - (op (on - 1) + 1)) by show j + lenSz (wr - (op (on - 1) + 1)) = _; rw [hz]; omega, up_ne _ _ (by omega), up_ne _ _ (by omega), h2 _ (by omega) (by omega), hc2 _ (by omega)]; congr 1; omega⟩, (by show _ = wr + lenSz (wr - (op (on - 1) + 1)); rw [hz]), rfl, (by first | rw [if_pos (by omega)] | rw [if_neg (by omega)])⟩, (up_lt (up_lt hb2 (by omega)) (by omega)), hb1⟩, rfl⟩)
                          exact W.iret (v := nI 0) hx hb hr (fun t ht hW => ⟨⟨nI 0, (nI 0, va_up (va_up ou1 ((op (on - 1)) + 1) 129) (((op (on - 1)) + 1) + 1) ((wr - (op (on - 1) + 1)) / 2 ^ 0 % 256), wr + 2, on - 1, 1, tx1), rfl, hq9, by rw [ht]; exact hP9, va_K.moved hW.alike hK, hD9⟩, hS.F ht⟩) hS.2.2 dX4_end_271
                      | succ q =>
                        have hl : lv_has ls 5 [(4, .int (nI q)), (3, .int (nI 2)), (2, .int (nI (wr - (op (on - 1) + 1)))), (1, .int (nI (op (on - 1)))), (0, .ref m0)] := hl
                        refine lv_iload hx hb dX4_end_141 (lv_at hl 0 rfl) ?_
                        refine hl_if_lt (tgt := 172) hx hb dX4_end_143 (by decide) (by omega) (fun c_24 => absurd c_24 (by omega)) (fun c_24 => ?_)
                        refine lv_aload_n hx hb dX4_end_146 rfl (lv_at hl 4 rfl) ?_
                        refine va_get (D := (dC, dI)) (ci := 3) (v := .ref m8) (C := RX4) (T := TX4) (N := 22) hx hb hts hinX4 hown hK hP 0 rfl rfl 17 (by decide) hf_35 (fun _ h9 => h9) rfl dX4_end_147 ?_
                        refine lv_iload_n hx hb dX4_end_150 rfl (lv_at hl 3 rfl) ?_
                        refine lv_iconst (v := nI 1) hx hb dX4_end_151 (by decide) ?_
                        refine hl_iadd hx hb dX4_end_152 ?_
                        refine lv_iload_n hx hb dX4_end_153 rfl (lv_at hl 1 rfl) ?_
                        refine hl_iadd hx hb dX4_end_154 ?_
                        refine lv_iload hx hb dX4_end_155 (lv_at hl 0 rfl) ?_
                        refine hl_iadd hx hb dX4_end_157 ?_
                        refine lv_aload_n hx hb dX4_end_158 rfl (lv_at hl 4 rfl) ?_
                        refine va_get (D := (dC, dI)) (ci := 3) (v := .ref m7) (C := RX4) (T := TX4) (N := 22) hx hb hts hinX4 hown hK hP 0 rfl rfl 16 (by decide) hf_32 (fun _ h9 => h9) rfl dX4_end_159 ?_
                        refine lv_iload hx hb dX4_end_162 (lv_at hl 0 rfl) ?_
                        refine hl_iald hx hb hK hP 7 0 rfl rfl (by omega) (by decide) dX4_end_164 ?_
                        refine hl_iast hx hb hK hP hD hS 8 0 rfl rfl (by omega) (by decide) dX4_end_165 (fun H locs hP hD hS => ?_)
                        have hP : va_P (dC, dI) vwCl (wM cA m0 m1 m2 m3 m4 m5 m6 m7 m8 m9 (nI 0) row sz1 nd tg st ln pa rd of ar dp at_ rs fd pl tx1 (va_up ou1 ((((op (on - 1)) + 1) + 2) + q) (tx1 q)) wr op on dn) H := hP
                        have hD : va_D A (wM cA m0 m1 m2 m3 m4 m5 m6 m7 m8 m9 (nI 0) row sz1 nd tg st ln pa rd of ar dp at_ rs fd pl tx1 (va_up ou1 ((((op (on - 1)) + 1) + 2) + q) (tx1 q)) wr op on dn) := hD
                        refine lv_iinc (v := (mI q)) (lv' := [(4, .int (mI q)), (3, .int (nI 2)), (2, .int (nI (wr - (op (on - 1) + 1)))), (1, .int (nI (op (on - 1)))), (0, .ref m0)]) hx hb dX4_end_166 hl (k := 0) rfl (mI_dec q) (by decide) rfl (fun ls hl => ?_)
                        refine lv_goto (tgt := 141) hx hb dX4_end_169 (by decide) ?_
                        exact ih_141 q (va_up ou1 ((((op (on - 1)) + 1) + 2) + q) (tx1 q)) (by omega) (by omega) (fun j hj => by rw [up_ne _ _ (by omega)]; exact h1 j (by omega)) (fun j ha hb => by by_cases e : j = q; rw [e, up_eq]; rw [up_ne _ _ (by omega)]; exact h2 j (by omega) hb) (up_lt hb2 (hb1 _)) _ _ _ hP hD hS (lv_sub hl [0, 1, 2, 3, 4] rfl)
                  exact lp_141 ((wr - (op (on - 1) + 1)) + 1) (wr - (op (on - 1) + 1)) ou (Nat.lt_succ_self _) (by omega) (fun j _ => rfl) (fun j ha hb => absurd hb (by omega)) hou _ _ _ hP hD hS (lv_sub hl [0, 1, 2, 3, 4] rfl)
                · refine lv_bipush (v := (-3)) hx hb dX4_end_133 (by decide) ?_
                  have hP9 : va_P (dC, dI) vwCl (vX4_end cA m0 m1 m2 m3 m4 m5 m6 m7 m8 m9 cd row sz1 nd tg st ln pa rd of ar dp at_ rs fd pl tx ou wr op on dn (nI 0, ou, wr, on, dn, tx1)) _ := hP
                  have hD9 : va_D A (vX4_end cA m0 m1 m2 m3 m4 m5 m6 m7 m8 m9 cd row sz1 nd tg st ln pa rd of ar dp at_ rs fd pl tx ou wr op on dn (nI 0, ou, wr, on, dn, tx1)) := hD
                  have hq9 : pX4_end m0 m1 m2 m3 m4 m5 m6 m7 m8 m9 cd row sz1 nd tg st ln pa rd of ar dp at_ rs fd pl tx ou wr op on dn ((-3)) (nI 0, ou, wr, on, dn, tx1) := (by have e : enC on wr ou op = (-3) := (by unfold enC; rw [if_neg (by omega), if_neg (fun h => h (by show okC _ _ _ _ = true; rw [← hcon]; assumption)), if_pos (by show 300 < wr + lenSz (wr - (op (on - 1) + 1)); rw [hz]; omega)]); exact ⟨⟨e.symm, Or.inr (Or.inr ⟨by rw [e]; decide, by rw [e]; decide, rfl, rfl, rfl, rfl⟩), hou, hb1⟩, rfl⟩)
                  exact W.iret (v := (-3)) hx hb hr (fun t ht hW => ⟨⟨(-3), (nI 0, ou, wr, on, dn, tx1), rfl, hq9, by rw [ht]; exact hP9, va_K.moved hW.alike hK, hD9⟩, hS.F ht⟩) hS.2.2 dX4_end_135
            · refine lv_iconst (v := nI 1) hx hb dX4_end_104 (by decide) ?_
              refine lv_goto (tgt := 120) hx hb dX4_end_105 (by decide) ?_
              refine lv_istore_n (lv' := [(3, .int (nI 1)), (2, .int (nI (wr - (op (on - 1) + 1)))), (1, .int (nI (op (on - 1)))), (0, .ref m0)]) hx hb dX4_end_120 rfl hl (by decide) rfl (fun ls hl => ?_)
              have hz : lenSz (wr - (op (on - 1) + 1)) = 1 := by unfold lenSz; first | rw [if_pos (by omega)] | rw [if_neg (by omega), if_pos (by omega)] | rw [if_neg (by omega), if_neg (by omega)]
              refine lv_aload_n hx hb dX4_end_121 rfl (lv_at hl 3 rfl) ?_
              refine va_get (D := (dC, dI)) (ci := 3) (v := .int (nI wr)) (C := RX4) (T := TX4) (N := 22) hx hb hts hinX4 hown hK hP 0 rfl rfl 18 (by decide) hf_112 (fun _ h9 => h9) rfl dX4_end_122 ?_
              refine lv_iload_n hx hb dX4_end_125 rfl (lv_at hl 0 rfl) ?_
              refine hl_iadd hx hb dX4_end_126 ?_
              refine lv_sipush (v := nI 300) hx hb dX4_end_127 (by decide) ?_
              refine hl_icmp_le (tgt := 136) hx hb dX4_end_130 (by decide) (by omega) (by omega) (fun c_25 => ?_) (fun c_25 => ?_)
              · refine lv_iload_n hx hb dX4_end_136 rfl (lv_at hl 1 rfl) ?_
                refine lv_iconst (v := nI 1) hx hb dX4_end_137 (by decide) ?_
                refine lv_isub hx hb dX4_end_138 ?_
                rw [show nI (wr - (op (on - 1) + 1)) - nI 1 = mI (wr - (op (on - 1) + 1)) from mI_sub (wr - (op (on - 1) + 1))]
                refine lv_istore (lv' := [(4, .int (mI (wr - (op (on - 1) + 1)))), (3, .int (nI 1)), (2, .int (nI (wr - (op (on - 1) + 1)))), (1, .int (nI (op (on - 1)))), (0, .ref m0)]) hx hb dX4_end_139 hl (by decide) rfl (fun ls hl => ?_)
                have lp_141 : ∀ (nf : Nat) (q : Nat) (ou1 : Nat → Nat), q < nf → (q ≤ wr - (op (on - 1) + 1)) → (∀ j, j < op (on - 1) + 1 + 1 + q → ou1 j = ou j) → (∀ j, q ≤ j → j < wr - (op (on - 1) + 1) → ou1 (op (on - 1) + 1 + 1 + j) = tx1 j) → (∀ j, ou1 j < 256) → ∀ (H : Heap) (locs : List Loc) (ls : Array Slot), va_P (dC, dI) vwCl (wM cA m0 m1 m2 m3 m4 m5 m6 m7 m8 m9 (nI 0) row sz1 nd tg st ln pa rd of ar dp at_ rs fd pl tx1 ou1 wr op on dn) H → va_D A (wM cA m0 m1 m2 m3 m4 m5 m6 m7 m8 m9 (nI 0) row sz1 nd tg st ln pa rd of ar dp at_ rs fd pl tx1 ou1 wr op on dn) → va_S A s.heap H locs → lv_has ls 5 [(4, .int (mI q)), (3, .int (nI 1)), (2, .int (nI (wr - (op (on - 1) + 1)))), (1, .int (nI (op (on - 1)))), (0, .ref m0)] → W p l e (headSpec wsX4_end ({ frames := 1, cells := 0, slots := 0, locals := 25 } : Room)).room s m ([.ref m0] : List Value).toArray below meth c H locs 0 0 (MQ below (qX4_end dC dI cA A m0 m1 m2 m3 m4 m5 m6 m7 m8 m9 cd row sz1 nd tg st ln pa rd of ar dp at_ rs fd pl tx ou wr op on dn) ([.ref m0] : List Value).toArray s 0 0 A) (F0 m 141 ls []) := by
                  intro nf
                  induction nf with
                  | zero =>
                    intro q ou1 hm
                    exact absurd hm (Nat.not_lt_zero _)
                  | succ nf ih_141 =>
                    intro q ou1 hm hk2 h1 h2 hb2 H locs ls hP hD hS hl
                    cases q with
                    | zero =>
                      refine lv_iload hx hb dX4_end_141 (lv_at hl 0 rfl) ?_
                      refine lv_if_lt (tgt := 172) hx hb dX4_end_143 (by decide) (fun c_27 => ?_) (fun c_27 => absurd (by decide) c_27)
                      refine lv_aload_n hx hb dX4_end_172 rfl (lv_at hl 4 rfl) ?_
                      refine va_get (D := (dC, dI)) (ci := 3) (v := .ref m8) (C := RX4) (T := TX4) (N := 22) hx hb hts hinX4 hown hK hP 0 rfl rfl 17 (by decide) hf_35 (fun _ h9 => h9) rfl dX4_end_173 ?_
                      refine lv_iload_n hx hb dX4_end_176 rfl (lv_at hl 3 rfl) ?_
                      refine lv_iconst (v := nI 1) hx hb dX4_end_177 (by decide) ?_
                      refine hl_iadd hx hb dX4_end_178 ?_
                      refine lv_iload_n hx hb dX4_end_179 rfl (lv_at hl 1 rfl) ?_
                      refine lv_iconst (v := nI 1) hx hb dX4_end_180 (by decide) ?_
                      refine hl_icmp_ne (tgt := 188) hx hb dX4_end_181 (by decide) (by omega) (by omega) (fun c_28 => absurd c_28 (by decide)) (fun c_28 => ?_)
                      refine lv_iload_n hx hb dX4_end_184 rfl (lv_at hl 2 rfl) ?_
                      refine lv_goto (tgt := 192) hx hb dX4_end_185 (by decide) ?_
                      refine hl_iast hx hb hK hP hD hS 8 0 rfl rfl (by omega) (by decide) dX4_end_192 (fun H locs hP hD hS => ?_)
                      have hP : va_P (dC, dI) vwCl (wM cA m0 m1 m2 m3 m4 m5 m6 m7 m8 m9 (nI 0) row sz1 nd tg st ln pa rd of ar dp at_ rs fd pl tx1 (va_up ou1 ((op (on - 1)) + 1) (wr - (op (on - 1) + 1))) wr op on dn) H := hP
                      have hD : va_D A (wM cA m0 m1 m2 m3 m4 m5 m6 m7 m8 m9 (nI 0) row sz1 nd tg st ln pa rd of ar dp at_ rs fd pl tx1 (va_up ou1 ((op (on - 1)) + 1) (wr - (op (on - 1) + 1))) wr op on dn) := hD
                      refine lv_iconst (v := nI 1) hx hb dX4_end_193 (by decide) ?_
                      refine lv_istore (lv' := [(4, .int (nI 1)), (3, .int (nI 1)), (2, .int (nI (wr - (op (on - 1) + 1)))), (1, .int (nI (op (on - 1)))), (0, .ref m0)]) hx hb dX4_end_194 hl (by decide) rfl (fun ls hl => ?_)
                      refine lv_iload hx hb dX4_end_196 (lv_at hl 0 rfl) ?_
                      refine lv_iload_n hx hb dX4_end_198 rfl (lv_at hl 1 rfl) ?_
                      refine hl_icmp_ge (tgt := 234) hx hb dX4_end_199 (by decide) (by omega) (by omega) (fun c_29 => ?_) (fun c_29 => absurd c_29 (by decide))
                      refine lv_aload_n hx hb dX4_end_234 rfl (lv_at hl 4 rfl) ?_
                      refine lv_dup hx hb dX4_end_235 rfl ?_
                      refine va_get (D := (dC, dI)) (ci := 3) (v := .int (nI wr)) (C := RX4) (T := TX4) (N := 22) hx hb hts hinX4 hown hK hP 0 rfl rfl 18 (by decide) hf_112 (fun _ h9 => h9) rfl dX4_end_236 ?_
                      refine lv_iload_n hx hb dX4_end_239 rfl (lv_at hl 1 rfl) ?_
                      refine hl_iadd hx hb dX4_end_240 ?_
                      refine va_put (D := (dC, dI)) (ci := 3) (v := .int (nI (wr + 1))) (ty := .int) (C := RX4) (T := TX4) (N := 22) hx hb hts hinX4 tyX4 tyX4_ok nmX4 hown hK hP hD hS 0 rfl rfl 18 (by decide) hf_112 (fun _ h9 => h9) rfl (by decide +kernel) rfl rfl (Nat.le_of_ble_eq_true rfl) dX4_end_241 (fun H locs hP hD hS => ?_)
                      have hP : va_P (dC, dI) vwCl (wM cA m0 m1 m2 m3 m4 m5 m6 m7 m8 m9 (nI 0) row sz1 nd tg st ln pa rd of ar dp at_ rs fd pl tx1 (va_up ou1 ((op (on - 1)) + 1) (wr - (op (on - 1) + 1))) (wr + 1) op on dn) H := hP
                      have hD : va_D A (wM cA m0 m1 m2 m3 m4 m5 m6 m7 m8 m9 (nI 0) row sz1 nd tg st ln pa rd of ar dp at_ rs fd pl tx1 (va_up ou1 ((op (on - 1)) + 1) (wr - (op (on - 1) + 1))) (wr + 1) op on dn) := hD
                      refine lv_aload_n hx hb dX4_end_244 rfl (lv_at hl 4 rfl) ?_
                      refine lv_dup hx hb dX4_end_245 rfl ?_
                      refine va_get (D := (dC, dI)) (ci := 3) (v := .int (nI on)) (C := RX4) (T := TX4) (N := 22) hx hb hts hinX4 hown hK hP 0 rfl rfl 20 (by decide) hf_115 (fun _ h9 => h9) rfl dX4_end_246 ?_
                      refine lv_iconst (v := nI 1) hx hb dX4_end_249 (by decide) ?_
                      refine hl_isub hx hb (by omega) dX4_end_250 ?_
                      refine va_put (D := (dC, dI)) (ci := 3) (v := .int (nI (on - 1))) (ty := .int) (C := RX4) (T := TX4) (N := 22) hx hb hts hinX4 tyX4 tyX4_ok nmX4 hown hK hP hD hS 0 rfl rfl 20 (by decide) hf_115 (fun _ h9 => h9) rfl (by decide +kernel) rfl rfl (Nat.le_of_ble_eq_true rfl) dX4_end_251 (fun H locs hP hD hS => ?_)
                      have hP : va_P (dC, dI) vwCl (wM cA m0 m1 m2 m3 m4 m5 m6 m7 m8 m9 (nI 0) row sz1 nd tg st ln pa rd of ar dp at_ rs fd pl tx1 (va_up ou1 ((op (on - 1)) + 1) (wr - (op (on - 1) + 1))) (wr + 1) op (on - 1) dn) H := hP
                      have hD : va_D A (wM cA m0 m1 m2 m3 m4 m5 m6 m7 m8 m9 (nI 0) row sz1 nd tg st ln pa rd of ar dp at_ rs fd pl tx1 (va_up ou1 ((op (on - 1)) + 1) (wr - (op (on - 1) + 1))) (wr + 1) op (on - 1) dn) := hD
                      refine lv_aload_n hx hb dX4_end_254 rfl (lv_at hl 4 rfl) ?_
                      refine lv_aload_n hx hb dX4_end_255 rfl (lv_at hl 4 rfl) ?_
                      refine va_get (D := (dC, dI)) (ci := 3) (v := .int (nI (on - 1))) (C := RX4) (T := TX4) (N := 22) hx hb hts hinX4 hown hK hP 0 rfl rfl 20 (by decide) hf_115 (fun _ h9 => h9) rfl dX4_end_256 ?_
                      refine hl_if_ne (tgt := 266) hx hb dX4_end_259 (by decide) (by omega) (fun c_30 => ?_) (fun c_30 => ?_)
                      · refine lv_iconst (v := nI 0) hx hb dX4_end_266 (by decide) ?_
                        refine va_put (D := (dC, dI)) (ci := 3) (v := .int (nI 0)) (ty := .boolean) (C := RX4) (T := TX4) (N := 22) hx hb hts hinX4 tyX4 tyX4_ok nmX4 hown hK hP hD hS 0 rfl rfl 21 (by decide) hf_118 (fun _ h9 => h9) rfl (by decide +kernel) rfl rfl (Nat.le_of_ble_eq_true rfl) dX4_end_267 (fun H locs hP hD hS => ?_)
                        have hP : va_P (dC, dI) vwCl (wM cA m0 m1 m2 m3 m4 m5 m6 m7 m8 m9 (nI 0) row sz1 nd tg st ln pa rd of ar dp at_ rs fd pl tx1 (va_up ou1 ((op (on - 1)) + 1) (wr - (op (on - 1) + 1))) (wr + 1) op (on - 1) 0) H := hP
                        have hD : va_D A (wM cA m0 m1 m2 m3 m4 m5 m6 m7 m8 m9 (nI 0) row sz1 nd tg st ln pa rd of ar dp at_ rs fd pl tx1 (va_up ou1 ((op (on - 1)) + 1) (wr - (op (on - 1) + 1))) (wr + 1) op (on - 1) 0) := hD
                        refine lv_iconst (v := nI 0) hx hb dX4_end_270 (by decide) ?_
                        have hP9 : va_P (dC, dI) vwCl (vX4_end cA m0 m1 m2 m3 m4 m5 m6 m7 m8 m9 cd row sz1 nd tg st ln pa rd of ar dp at_ rs fd pl tx ou wr op on dn (nI 0, va_up ou1 ((op (on - 1)) + 1) (wr - (op (on - 1) + 1)), wr + 1, on - 1, 0, tx1)) _ := hP
                        have hD9 : va_D A (vX4_end cA m0 m1 m2 m3 m4 m5 m6 m7 m8 m9 cd row sz1 nd tg st ln pa rd of ar dp at_ rs fd pl tx ou wr op on dn (nI 0, va_up ou1 ((op (on - 1)) + 1) (wr - (op (on - 1) + 1)), wr + 1, on - 1, 0, tx1)) := hD
                        have hq9 : pX4_end m0 m1 m2 m3 m4 m5 m6 m7 m8 m9 cd row sz1 nd tg st ln pa rd of ar dp at_ rs fd pl tx ou wr op on dn (nI 0) (nI 0, va_up ou1 ((op (on - 1)) + 1) (wr - (op (on - 1) + 1)), wr + 1, on - 1, 0, tx1) := (by have e : enC on wr ou op = 0 := (by unfold enC; rw [if_neg (by omega), if_neg (fun h => h (by show okC _ _ _ _ = true; rw [← hcon]; assumption)), if_neg (by show ¬ 300 < wr + lenSz (wr - (op (on - 1) + 1)); rw [hz]; omega)]); exact ⟨⟨e.symm, Or.inl ⟨e, by omega, (by show wr + lenSz (wr - (op (on - 1) + 1)) ≤ 300; rw [hz]; omega), ⟨fun j hj => by rw [up_ne _ _ (by omega)]; exact h1 j (by omega), fun i hi => by show _ = lnB (wr - (op (on - 1) + 1)) (lenSz (wr - (op (on - 1) + 1))) i; rw [hz]; replace hi : i < lenSz (wr - (op (on - 1) + 1)) := hi; rw [hz] at hi; rw [show i = 0 by omega]; exact up_eq _ _ _, fun j ha hb => by show _ = ou j; rw [show j + lenSz (enN on wr op) = op (on - 1) + 1 + 1 + (j - (op (on - 1) + 1)) by show j + lenSz (wr - (op (on - 1) + 1)) = _; rw [hz]; omega, up_ne _ _ (by omega), h2 _ (by omega) (by omega), hc2 _ (by omega)]; congr 1; omega⟩, (by show _ = wr + lenSz (wr - (op (on - 1) + 1)); rw [hz]), rfl, (by first | rw [if_pos (by omega)] | rw [if_neg (by omega)])⟩, (up_lt hb2 (by omega)), hb1⟩, rfl⟩)
                        exact W.iret (v := nI 0) hx hb hr (fun t ht hW => ⟨⟨nI 0, (nI 0, va_up ou1 ((op (on - 1)) + 1) (wr - (op (on - 1) + 1)), wr + 1, on - 1, 0, tx1), rfl, hq9, by rw [ht]; exact hP9, va_K.moved hW.alike hK, hD9⟩, hS.F ht⟩) hS.2.2 dX4_end_271
                      · refine lv_iconst (v := nI 1) hx hb dX4_end_262 (by decide) ?_
                        refine lv_goto (tgt := 267) hx hb dX4_end_263 (by decide) ?_
                        refine va_put (D := (dC, dI)) (ci := 3) (v := .int (nI 1)) (ty := .boolean) (C := RX4) (T := TX4) (N := 22) hx hb hts hinX4 tyX4 tyX4_ok nmX4 hown hK hP hD hS 0 rfl rfl 21 (by decide) hf_118 (fun _ h9 => h9) rfl (by decide +kernel) rfl rfl (Nat.le_of_ble_eq_true rfl) dX4_end_267 (fun H locs hP hD hS => ?_)
                        have hP : va_P (dC, dI) vwCl (wM cA m0 m1 m2 m3 m4 m5 m6 m7 m8 m9 (nI 0) row sz1 nd tg st ln pa rd of ar dp at_ rs fd pl tx1 (va_up ou1 ((op (on - 1)) + 1) (wr - (op (on - 1) + 1))) (wr + 1) op (on - 1) 1) H := hP
                        have hD : va_D A (wM cA m0 m1 m2 m3 m4 m5 m6 m7 m8 m9 (nI 0) row sz1 nd tg st ln pa rd of ar dp at_ rs fd pl tx1 (va_up ou1 ((op (on - 1)) + 1) (wr - (op (on - 1) + 1))) (wr + 1) op (on - 1) 1) := hD
                        refine lv_iconst (v := nI 0) hx hb dX4_end_270 (by decide) ?_
                        have hP9 : va_P (dC, dI) vwCl (vX4_end cA m0 m1 m2 m3 m4 m5 m6 m7 m8 m9 cd row sz1 nd tg st ln pa rd of ar dp at_ rs fd pl tx ou wr op on dn (nI 0, va_up ou1 ((op (on - 1)) + 1) (wr - (op (on - 1) + 1)), wr + 1, on - 1, 1, tx1)) _ := hP
                        have hD9 : va_D A (vX4_end cA m0 m1 m2 m3 m4 m5 m6 m7 m8 m9 cd row sz1 nd tg st ln pa rd of ar dp at_ rs fd pl tx ou wr op on dn (nI 0, va_up ou1 ((op (on - 1)) + 1) (wr - (op (on - 1) + 1)), wr + 1, on - 1, 1, tx1)) := hD
                        have hq9 : pX4_end m0 m1 m2 m3 m4 m5 m6 m7 m8 m9 cd row sz1 nd tg st ln pa rd of ar dp at_ rs fd pl tx ou wr op on dn (nI 0) (nI 0, va_up ou1 ((op (on - 1)) + 1) (wr - (op (on - 1) + 1)), wr + 1, on - 1, 1, tx1) := (by have e : enC on wr ou op = 0 := (by unfold enC; rw [if_neg (by omega), if_neg (fun h => h (by show okC _ _ _ _ = true; rw [← hcon]; assumption)), if_neg (by show ¬ 300 < wr + lenSz (wr - (op (on - 1) + 1)); rw [hz]; omega)]); exact ⟨⟨e.symm, Or.inl ⟨e, by omega, (by show wr + lenSz (wr - (op (on - 1) + 1)) ≤ 300; rw [hz]; omega), ⟨fun j hj => by rw [up_ne _ _ (by omega)]; exact h1 j (by omega), fun i hi => by show _ = lnB (wr - (op (on - 1) + 1)) (lenSz (wr - (op (on - 1) + 1))) i; rw [hz]; replace hi : i < lenSz (wr - (op (on - 1) + 1)) := hi; rw [hz] at hi; rw [show i = 0 by omega]; exact up_eq _ _ _, fun j ha hb => by show _ = ou j; rw [show j + lenSz (enN on wr op) = op (on - 1) + 1 + 1 + (j - (op (on - 1) + 1)) by show j + lenSz (wr - (op (on - 1) + 1)) = _; rw [hz]; omega, up_ne _ _ (by omega), h2 _ (by omega) (by omega), hc2 _ (by omega)]; congr 1; omega⟩, (by show _ = wr + lenSz (wr - (op (on - 1) + 1)); rw [hz]), rfl, (by first | rw [if_pos (by omega)] | rw [if_neg (by omega)])⟩, (up_lt hb2 (by omega)), hb1⟩, rfl⟩)
                        exact W.iret (v := nI 0) hx hb hr (fun t ht hW => ⟨⟨nI 0, (nI 0, va_up ou1 ((op (on - 1)) + 1) (wr - (op (on - 1) + 1)), wr + 1, on - 1, 1, tx1), rfl, hq9, by rw [ht]; exact hP9, va_K.moved hW.alike hK, hD9⟩, hS.F ht⟩) hS.2.2 dX4_end_271
                    | succ q =>
                      have hl : lv_has ls 5 [(4, .int (nI q)), (3, .int (nI 1)), (2, .int (nI (wr - (op (on - 1) + 1)))), (1, .int (nI (op (on - 1)))), (0, .ref m0)] := hl
                      refine lv_iload hx hb dX4_end_141 (lv_at hl 0 rfl) ?_
                      refine hl_if_lt (tgt := 172) hx hb dX4_end_143 (by decide) (by omega) (fun c_31 => absurd c_31 (by omega)) (fun c_31 => ?_)
                      refine lv_aload_n hx hb dX4_end_146 rfl (lv_at hl 4 rfl) ?_
                      refine va_get (D := (dC, dI)) (ci := 3) (v := .ref m8) (C := RX4) (T := TX4) (N := 22) hx hb hts hinX4 hown hK hP 0 rfl rfl 17 (by decide) hf_35 (fun _ h9 => h9) rfl dX4_end_147 ?_
                      refine lv_iload_n hx hb dX4_end_150 rfl (lv_at hl 3 rfl) ?_
                      refine lv_iconst (v := nI 1) hx hb dX4_end_151 (by decide) ?_
                      refine hl_iadd hx hb dX4_end_152 ?_
                      refine lv_iload_n hx hb dX4_end_153 rfl (lv_at hl 1 rfl) ?_
                      refine hl_iadd hx hb dX4_end_154 ?_
                      refine lv_iload hx hb dX4_end_155 (lv_at hl 0 rfl) ?_
                      refine hl_iadd hx hb dX4_end_157 ?_
                      refine lv_aload_n hx hb dX4_end_158 rfl (lv_at hl 4 rfl) ?_
                      refine va_get (D := (dC, dI)) (ci := 3) (v := .ref m7) (C := RX4) (T := TX4) (N := 22) hx hb hts hinX4 hown hK hP 0 rfl rfl 16 (by decide) hf_32 (fun _ h9 => h9) rfl dX4_end_159 ?_
                      refine lv_iload hx hb dX4_end_162 (lv_at hl 0 rfl) ?_
                      refine hl_iald hx hb hK hP 7 0 rfl rfl (by omega) (by decide) dX4_end_164 ?_
                      refine hl_iast hx hb hK hP hD hS 8 0 rfl rfl (by omega) (by decide) dX4_end_165 (fun H locs hP hD hS => ?_)
                      have hP : va_P (dC, dI) vwCl (wM cA m0 m1 m2 m3 m4 m5 m6 m7 m8 m9 (nI 0) row sz1 nd tg st ln pa rd of ar dp at_ rs fd pl tx1 (va_up ou1 ((((op (on - 1)) + 1) + 1) + q) (tx1 q)) wr op on dn) H := hP
                      have hD : va_D A (wM cA m0 m1 m2 m3 m4 m5 m6 m7 m8 m9 (nI 0) row sz1 nd tg st ln pa rd of ar dp at_ rs fd pl tx1 (va_up ou1 ((((op (on - 1)) + 1) + 1) + q) (tx1 q)) wr op on dn) := hD
                      refine lv_iinc (v := (mI q)) (lv' := [(4, .int (mI q)), (3, .int (nI 1)), (2, .int (nI (wr - (op (on - 1) + 1)))), (1, .int (nI (op (on - 1)))), (0, .ref m0)]) hx hb dX4_end_166 hl (k := 0) rfl (mI_dec q) (by decide) rfl (fun ls hl => ?_)
                      refine lv_goto (tgt := 141) hx hb dX4_end_169 (by decide) ?_
                      exact ih_141 q (va_up ou1 ((((op (on - 1)) + 1) + 1) + q) (tx1 q)) (by omega) (by omega) (fun j hj => by rw [up_ne _ _ (by omega)]; exact h1 j (by omega)) (fun j ha hb => by by_cases e : j = q; rw [e, up_eq]; rw [up_ne _ _ (by omega)]; exact h2 j (by omega) hb) (up_lt hb2 (hb1 _)) _ _ _ hP hD hS (lv_sub hl [0, 1, 2, 3, 4] rfl)
                exact lp_141 ((wr - (op (on - 1) + 1)) + 1) (wr - (op (on - 1) + 1)) ou (Nat.lt_succ_self _) (by omega) (fun j _ => rfl) (fun j ha hb => absurd hb (by omega)) hou _ _ _ hP hD hS (lv_sub hl [0, 1, 2, 3, 4] rfl)
              · refine lv_bipush (v := (-3)) hx hb dX4_end_133 (by decide) ?_
                have hP9 : va_P (dC, dI) vwCl (vX4_end cA m0 m1 m2 m3 m4 m5 m6 m7 m8 m9 cd row sz1 nd tg st ln pa rd of ar dp at_ rs fd pl tx ou wr op on dn (nI 0, ou, wr, on, dn, tx1)) _ := hP
                have hD9 : va_D A (vX4_end cA m0 m1 m2 m3 m4 m5 m6 m7 m8 m9 cd row sz1 nd tg st ln pa rd of ar dp at_ rs fd pl tx ou wr op on dn (nI 0, ou, wr, on, dn, tx1)) := hD
                have hq9 : pX4_end m0 m1 m2 m3 m4 m5 m6 m7 m8 m9 cd row sz1 nd tg st ln pa rd of ar dp at_ rs fd pl tx ou wr op on dn ((-3)) (nI 0, ou, wr, on, dn, tx1) := (by have e : enC on wr ou op = (-3) := (by unfold enC; rw [if_neg (by omega), if_neg (fun h => h (by show okC _ _ _ _ = true; rw [← hcon]; assumption)), if_pos (by show 300 < wr + lenSz (wr - (op (on - 1) + 1)); rw [hz]; omega)]); exact ⟨⟨e.symm, Or.inr (Or.inr ⟨by rw [e]; decide, by rw [e]; decide, rfl, rfl, rfl, rfl⟩), hou, hb1⟩, rfl⟩)
                exact W.iret (v := (-3)) hx hb hr (fun t ht hW => ⟨⟨(-3), (nI 0, ou, wr, on, dn, tx1), rfl, hq9, by rw [ht]; exact hP9, va_K.moved hW.alike hK, hD9⟩, hS.F ht⟩) hS.2.2 dX4_end_135
          · refine lv_aload_n hx hb dX4_end_79 rfl (lv_at hl 3 rfl) ?_
            refine lv_iload_n hx hb dX4_end_80 rfl (lv_at hl 2 rfl) ?_
            refine va_put (D := (dC, dI)) (ci := 3) (v := .int (nI (op (on - 1)))) (ty := .int) (C := RX4) (T := TX4) (N := 22) hx hb hts hinX4 tyX4 tyX4_ok nmX4 hown hK hP hD hS 0 rfl rfl 18 (by decide) hf_112 (fun _ h9 => h9) rfl (by decide +kernel) rfl rfl (Nat.le_of_ble_eq_true rfl) dX4_end_81 (fun H locs hP hD hS => ?_)
            have hP : va_P (dC, dI) vwCl (wM cA m0 m1 m2 m3 m4 m5 m6 m7 m8 m9 (nI 0) row sz1 nd tg st ln pa rd of ar dp at_ rs fd pl tx1 ou (op (on - 1)) op on dn) H := hP
            have hD : va_D A (wM cA m0 m1 m2 m3 m4 m5 m6 m7 m8 m9 (nI 0) row sz1 nd tg st ln pa rd of ar dp at_ rs fd pl tx1 ou (op (on - 1)) op on dn) := hD
            refine lv_aload_n hx hb dX4_end_84 rfl (lv_at hl 3 rfl) ?_
            refine lv_dup hx hb dX4_end_85 rfl ?_
            refine va_get (D := (dC, dI)) (ci := 3) (v := .int (nI on)) (C := RX4) (T := TX4) (N := 22) hx hb hts hinX4 hown hK hP 0 rfl rfl 20 (by decide) hf_115 (fun _ h9 => h9) rfl dX4_end_86 ?_
            refine lv_iconst (v := nI 1) hx hb dX4_end_89 (by decide) ?_
            refine hl_isub hx hb (by omega) dX4_end_90 ?_
            refine va_put (D := (dC, dI)) (ci := 3) (v := .int (nI (on - 1))) (ty := .int) (C := RX4) (T := TX4) (N := 22) hx hb hts hinX4 tyX4 tyX4_ok nmX4 hown hK hP hD hS 0 rfl rfl 20 (by decide) hf_115 (fun _ h9 => h9) rfl (by decide +kernel) rfl rfl (Nat.le_of_ble_eq_true rfl) dX4_end_91 (fun H locs hP hD hS => ?_)
            have hP : va_P (dC, dI) vwCl (wM cA m0 m1 m2 m3 m4 m5 m6 m7 m8 m9 (nI 0) row sz1 nd tg st ln pa rd of ar dp at_ rs fd pl tx1 ou (op (on - 1)) op (on - 1) dn) H := hP
            have hD : va_D A (wM cA m0 m1 m2 m3 m4 m5 m6 m7 m8 m9 (nI 0) row sz1 nd tg st ln pa rd of ar dp at_ rs fd pl tx1 ou (op (on - 1)) op (on - 1) dn) := hD
            refine lv_bipush (v := (-4)) hx hb dX4_end_94 (by decide) ?_
            have hP9 : va_P (dC, dI) vwCl (vX4_end cA m0 m1 m2 m3 m4 m5 m6 m7 m8 m9 cd row sz1 nd tg st ln pa rd of ar dp at_ rs fd pl tx ou wr op on dn (nI 0, ou, op (on - 1), on - 1, dn, tx1)) _ := hP
            have hD9 : va_D A (vX4_end cA m0 m1 m2 m3 m4 m5 m6 m7 m8 m9 cd row sz1 nd tg st ln pa rd of ar dp at_ rs fd pl tx ou wr op on dn (nI 0, ou, op (on - 1), on - 1, dn, tx1)) := hD
            have hq9 : pX4_end m0 m1 m2 m3 m4 m5 m6 m7 m8 m9 cd row sz1 nd tg st ln pa rd of ar dp at_ rs fd pl tx ou wr op on dn ((-4)) (nI 0, ou, op (on - 1), on - 1, dn, tx1) := (by have e : enC on wr ou op = (-4) := (by unfold enC; rw [if_neg (by omega), if_pos (by show ¬ okC _ _ _ _ = true; rw [← hcon]; assumption)]); exact ⟨⟨e.symm, Or.inr (Or.inl ⟨e, by omega, rfl, rfl, rfl, rfl⟩), hou, hb1⟩, rfl⟩)
            exact W.iret (v := (-4)) hx hb hr (fun t ht hW => ⟨⟨(-4), (nI 0, ou, op (on - 1), on - 1, dn, tx1), rfl, hq9, by rw [ht]; exact hP9, va_K.moved hW.alike hK, hD9⟩, hS.F ht⟩) hS.2.2 dX4_end_96
        · refine lv_aload_n hx hb dX4_end_43 rfl (lv_at hl 3 rfl) ?_
          refine va_get (D := (dC, dI)) (ci := 3) (v := .ref m7) (C := RX4) (T := TX4) (N := 22) hx hb hts hinX4 hown hK hP 0 rfl rfl 16 (by decide) hf_32 (fun _ h9 => h9) rfl dX4_end_44 ?_
          refine lv_iload_n hx hb dX4_end_47 rfl (lv_at hl 0 rfl) ?_
          refine lv_aload_n hx hb dX4_end_48 rfl (lv_at hl 3 rfl) ?_
          refine va_get (D := (dC, dI)) (ci := 3) (v := .ref m8) (C := RX4) (T := TX4) (N := 22) hx hb hts hinX4 hown hK hP 0 rfl rfl 17 (by decide) hf_35 (fun _ h9 => h9) rfl dX4_end_49 ?_
          refine lv_iload_n hx hb dX4_end_52 rfl (lv_at hl 2 rfl) ?_
          refine lv_iconst (v := nI 1) hx hb dX4_end_53 (by decide) ?_
          refine hl_iadd hx hb dX4_end_54 ?_
          refine lv_iload_n hx hb dX4_end_55 rfl (lv_at hl 0 rfl) ?_
          refine hl_iadd hx hb dX4_end_56 ?_
          refine hl_iald hx hb hK hP 8 0 rfl rfl (by omega) (by decide) dX4_end_57 ?_
          refine hl_iast hx hb hK hP hD hS 7 0 rfl rfl (by omega) (by decide) dX4_end_58 (fun H locs hP hD hS => ?_)
          have hP : va_P (dC, dI) vwCl (wM cA m0 m1 m2 m3 m4 m5 m6 m7 m8 m9 (nI 0) row sz1 nd tg st ln pa rd of ar dp at_ rs fd pl (va_up tx1 k (ou (((op (on - 1)) + 1) + k))) ou wr op on dn) H := hP
          have hD : va_D A (wM cA m0 m1 m2 m3 m4 m5 m6 m7 m8 m9 (nI 0) row sz1 nd tg st ln pa rd of ar dp at_ rs fd pl (va_up tx1 k (ou (((op (on - 1)) + 1) + k))) ou wr op on dn) := hD
          refine lv_iinc (v := (nI (k + 1))) (lv' := [(3, .int (nI (k + 1))), (2, .int (nI (wr - (op (on - 1) + 1)))), (1, .int (nI (op (on - 1)))), (0, .ref m0)]) hx hb dX4_end_59 hl (k := 0) rfl (nI_inc k 1) (by decide) rfl (fun ls hl => ?_)
          refine lv_goto (tgt := 38) hx hb dX4_end_62 (by decide) ?_
          exact ih_38 (k + 1) (va_up tx1 k (ou (((op (on - 1)) + 1) + k))) (by omega) (by omega) (fun j hj => by by_cases e : j = k; rw [e, up_eq]; rw [up_ne _ _ e]; exact hc1 j (by omega)) (up_lt hb1 (hou _)) _ _ _ hP hD hS (lv_sub hl [0, 1, 2, 3] rfl)
    exact lp_38 (wr - (op (on - 1) + 1) - 0 + 1) 0 tx (Nat.lt_succ_self _) (by omega) (fun j hj => absurd hj (Nat.not_lt_zero j)) htx _ _ _ hP hD hS (lv_sub hl [0, 1, 2, 3] rfl)
  · refine lv_bipush (v := (-2)) hx hb dX4_end_12 (by decide) ?_
    have hP9 : va_P (dC, dI) vwCl (vX4_end cA m0 m1 m2 m3 m4 m5 m6 m7 m8 m9 cd row sz1 nd tg st ln pa rd of ar dp at_ rs fd pl tx ou wr op on dn (nI 0, ou, wr, on, dn, tx)) _ := hP
    have hD9 : va_D A (vX4_end cA m0 m1 m2 m3 m4 m5 m6 m7 m8 m9 cd row sz1 nd tg st ln pa rd of ar dp at_ rs fd pl tx ou wr op on dn (nI 0, ou, wr, on, dn, tx)) := hD
    have hq9 : pX4_end m0 m1 m2 m3 m4 m5 m6 m7 m8 m9 cd row sz1 nd tg st ln pa rd of ar dp at_ rs fd pl tx ou wr op on dn ((-2)) (nI 0, ou, wr, on, dn, tx) := (by have e : enC on wr ou op = (-2) := (by unfold enC; rw [if_pos (by assumption)]); exact ⟨⟨e.symm, Or.inr (Or.inr ⟨by rw [e]; decide, by rw [e]; decide, rfl, rfl, rfl, rfl⟩), hou, htx⟩, rfl⟩)
    exact W.iret (v := (-2)) hx hb hr (fun t ht hW => ⟨⟨(-2), (nI 0, ou, wr, on, dn, tx), rfl, hq9, by rw [ht]; exact hP9, va_K.moved hW.alike hK, hD9⟩, hS.F ht⟩) hS.2.2 dX4_end_14
