abbrev pX2_addInteger (v0 : Nat) (v1 : Nat) (v2 : Nat) (bt : Nat → Nat) (wz : Nat) (op : Nat → Nat) (dp : Nat) (v : Int32) : Int32 → (Nat → Nat) × Nat → Prop := fun (r : Int32) (u : (Nat → Nat) × Nat) => match u with | (bt2, wz2) => r = piC v dp wz bt op ∧ ((piC v dp wz bt op = 0 ∧ wz + intSz v ≤ 300 ∧ bt2 = pB bt wz (byN v) (intSz v) (intSz v) ∧ wz2 = wz + intSz v) ∨ (piC v dp wz bt op ≠ 0 ∧ bt2 = bt ∧ wz2 = wz))
abbrev vX2_addInteger (cA : ClassId) (v0 : Nat) (v1 : Nat) (v2 : Nat) (bt : Nat → Nat) (wz : Nat) (op : Nat → Nat) (dp : Nat) (v : Int32) : (Nat → Nat) × Nat → va_W := fun (u : (Nat → Nat) × Nat) => match u with | (bt2, wz2) => wW cA v0 v1 v2 bt2 wz2 op dp
abbrev qX2_addInteger (dC : Nat → ClassId) (dI : Nat → Nat → Nat) (cA : ClassId) (A : Nat → Prop) (v0 : Nat) (v1 : Nat) (v2 : Nat) (bt : Nat → Nat) (wz : Nat) (op : Nat → Nat) (dp : Nat) (v : Int32) : Array Value → State → Outcome → State → Prop := va_Qi (pX2_addInteger v0 v1 v2 bt wz op dp v) (fun u => cAft dC dI cA A (vX2_addInteger cA v0 v1 v2 bt wz op dp v u)) A
set_option maxHeartbeats 4000000 in
set_option maxRecDepth 100000 in
theorem k_X2_addInteger (l : Launch) (dC : Nat → ClassId) (dI : Nat → Nat → Nat) (cA : ClassId) (v0 : Nat) (v1 : Nat) (v2 : Nat) (bt : Nat → Nat) (wz : Nat) (op : Nat → Nat) (dp : Nat) (v : Int32) (sz : Nat) (hbt : ∀ j, bt j < 256) (hwz : wz ≤ 300) (hdp : dp ≤ 16) (hop : ∀ j, j < dp → op j < wz) : Met l yX2_addInteger wsX2_addInteger ({ frames := 1, cells := 0, slots := 0, locals := 21 } : Room) (va_Pc [.ref v0, .int v] (cPre dC dI cA (wW cA v0 v1 v2 bt wz op dp) sz)) (qX2_addInteger dC dI cA (va_A (wW cA v0 v1 v2 bt wz op dp) sz) v0 v1 v2 bt wz op dp v) 0 0 (va_A (wW cA v0 v1 v2 bt wz op dp) sz) := by
  refine Met.ofW (cc := cX2_addInteger) (maxL := 4) (ret := (some .int)) (by decide) rfl ?_
  intro p e s m args below meth c s₁ B hml hv
  obtain ⟨rfl, hsz, hP, hK, hD0⟩ := hv
  have hx := B.exec
  have hb := B.bytes
  have hr := B.returns
  have hts := atoms_spec (ws := wsX2_addInteger) B.pre
  have hown : s.vm.findClass RX2 = some m.cls := findClass_of_methodNamed B.named
  have hlocks := B.notSynchronized
  subst hsz
  have hD := hD0.self (sz := s.heap.size)
  generalize hAe : va_A (wW cA v0 v1 v2 bt wz op dp) s.heap.size = A at hD ⊢
  have hA : ∀ q : Nat, s.heap.size ≤ q → A q := fun q h => by rw [← hAe]; exact Or.inr h
  have hS : va_S A s.heap s.heap [] := va_S.rf
  have hl := lv_entry ([.ref v0, .int v]) (n := 4) (Nat.le_of_ble_eq_true rfl)
  rw [lg_entry_eq]
  generalize (lg_sl ([.ref v0, .int v]) ++ List.replicate (4 - (lg_sl ([.ref v0, .int v])).length) Slot.unset).toArray = ls at hl ⊢
  have hl : lv_has ls 4 [(0, .ref v0), (1, .int v)] := hl
  have hinX2 : ∀ w ∈ wsX20, w ∈ wsX2_addInteger := fun _ h => List.mem_cons_of_mem _ (List.mem_append_right _ h)
  have hP : va_P (dC, dI) vwCl (wW cA v0 v1 v2 bt wz op dp) s.heap := hP
  refine lv_aload_n hx hb dX2_addInteger_0 rfl (lv_at hl 0 rfl) ?_
  refine cl_Vi (As := []) (rest := []) (wr := []) ⟨hx, hb, hml, hown, hts⟩ (k_X2_openTag l dC dI cA v0 v1 v2 bt wz op dp _ hbt hwz hdp hop) (cwV 0 hts gX2_addInteger_X2_openTag rfl rfl rfl (by decide +kernel) ⟨Nat.le_of_ble_eq_true rfl, Nat.le_of_ble_eq_true rfl⟩) hK hP hD hS hA [0, 1, 2] [] rfl rfl (by decide) (by decide) (by decide) (ci := 1) (q0 := 0) rfl rfl rfl rfl hl.1 rfl (Nat.le_of_ble_eq_true rfl) dX2_addInteger_1 ⟨Nat.le_of_ble_eq_true rfl, Nat.le_of_ble_eq_true rfl⟩ (fun r_1 u_1 H locs hw_1 hP hD hS => ?_)
  have hP : va_P (dC, dI) vwCl (wW cA v0 v1 v2 bt wz op dp) H := hP
  have hD : va_D A (wW cA v0 v1 v2 bt wz op dp) := hD
  have hw_1 : (dp = 0 ∧ r_1 = -1) ∨ (0 < dp ∧ r_1 = nI (bt (op (dp - 1)))) := hw_1
  rcases hw_1 with ⟨hd0_1, e1_1⟩ | ⟨hd0_1, e1_1⟩
  · have e1_1 := e1_1.symm
    subst e1_1
    refine lv_iconst (v := nI 2) hx hb dX2_addInteger_4 (by decide) ?_
    refine lv_icmp_ne (tgt := 15) hx hb dX2_addInteger_5 (by decide) (fun c_2 => ?_) (fun c_2 => absurd c_2 (by decide))
    refine lv_bipush (v := (-2)) hx hb dX2_addInteger_15 (by decide) ?_
    have hP9 : va_P (dC, dI) vwCl (vX2_addInteger cA v0 v1 v2 bt wz op dp v (bt, wz)) _ := hP
    have hD9 : va_D A (vX2_addInteger cA v0 v1 v2 bt wz op dp v (bt, wz)) := hD
    have hq9 : pX2_addInteger v0 v1 v2 bt wz op dp v ((-2)) (bt, wz) := (by have e : piC v dp wz bt op = (-2) := (by unfold piC; rw [if_pos (by omega)]); exact ⟨e.symm, Or.inr ⟨by rw [e]; decide, rfl, rfl⟩⟩)
    exact W.iret (v := (-2)) hx hb hr (fun t ht hW => ⟨⟨(-2), (bt, wz), rfl, hq9, by rw [ht]; exact hP9, va_K.moved hW.alike hK, hD9⟩, hS.F ht⟩) hS.2.2 dX2_addInteger_17
  · have e1_1 := e1_1.symm
    subst e1_1
    have hv_1 := hbt (op (dp - 1))
    refine lv_iconst (v := nI 2) hx hb dX2_addInteger_4 (by decide) ?_
    refine hl_icmp_ne (tgt := 15) hx hb dX2_addInteger_5 (by decide) (by omega) (by omega) (fun c_3 => ?_) (fun c_3 => ?_)
    · refine lv_bipush (v := (-2)) hx hb dX2_addInteger_15 (by decide) ?_
      have hP9 : va_P (dC, dI) vwCl (vX2_addInteger cA v0 v1 v2 bt wz op dp v (bt, wz)) _ := hP
      have hD9 : va_D A (vX2_addInteger cA v0 v1 v2 bt wz op dp v (bt, wz)) := hD
      have hq9 : pX2_addInteger v0 v1 v2 bt wz op dp v ((-2)) (bt, wz) := (by have e : piC v dp wz bt op = (-2) := (by unfold piC; rw [if_pos (by omega)]); exact ⟨e.symm, Or.inr ⟨by rw [e]; decide, rfl, rfl⟩⟩)
      exact W.iret (v := (-2)) hx hb hr (fun t ht hW => ⟨⟨(-2), (bt, wz), rfl, hq9, by rw [ht]; exact hP9, va_K.moved hW.alike hK, hD9⟩, hS.F ht⟩) hS.2.2 dX2_addInteger_17
    · refine lv_aload_n hx hb dX2_addInteger_8 rfl (lv_at hl 0 rfl) ?_
      refine cl_Vi (As := []) (rest := []) (wr := []) ⟨hx, hb, hml, hown, hts⟩ (k_X2_openLength l dC dI cA v0 v1 v2 bt wz op dp _ hwz hdp hop) (cwV 0 hts gX2_addInteger_X2_openLength rfl rfl rfl (by decide +kernel) ⟨Nat.le_of_ble_eq_true rfl, Nat.le_of_ble_eq_true rfl⟩) hK hP hD hS hA [0, 1, 2] [] rfl rfl (by decide) (by decide) (by decide) (ci := 1) (q0 := 0) rfl rfl rfl rfl hl.1 rfl (Nat.le_of_ble_eq_true rfl) dX2_addInteger_9 ⟨Nat.le_of_ble_eq_true rfl, Nat.le_of_ble_eq_true rfl⟩ (fun r_4 u_4 H locs hw_4 hP hD hS => ?_)
      have hP : va_P (dC, dI) vwCl (wW cA v0 v1 v2 bt wz op dp) H := hP
      have hD : va_D A (wW cA v0 v1 v2 bt wz op dp) := hD
      have hw_4 : r_4 = nI (if dp = 0 then 0 else wz - op (dp - 1) - 1) := hw_4
      have hw_4 := hw_4.symm
      subst hw_4
      have hol := hop (dp - 1) (by omega)
      refine hl_top (show nI (if dp = 0 then 0 else wz - op (dp - 1) - 1) = nI (wz - op (dp - 1) - 1) by rw [if_neg (by omega)]) ?_
      refine hl_if_le (tgt := 18) hx hb dX2_addInteger_12 (by decide) (by omega) (fun c_5 => ?_) (fun c_5 => ?_)
      · refine lv_iload_n hx hb dX2_addInteger_18 rfl (lv_at hl 1 rfl) ?_
        refine cl_Si (As := [.int v]) (rest := []) (wr := [(v0, .inr (1, [.ref v1, .int (nI wz), .ref v2, .int (nI dp)])), (v1, .inl (cA, 300, .inl (nA bt))), (v2, .inl (cA, 16, .inl (nA op)))]) ⟨hx, hb, hml, hown, hts⟩ (k_X2_integerSize l dC dI cA v _ ) (va_cwS 1 hts gX2_addInteger_X2_integerSize rfl rfl rfl (by decide +kernel) ⟨Nat.le_of_ble_eq_true rfl, Nat.le_of_ble_eq_true rfl⟩) hK hP hD hS hA [] [0, 1, 2] rfl rfl (by decide) (by decide) (by decide) rfl hl.1 rfl (Nat.le_of_ble_eq_true rfl) dX2_addInteger_19 ⟨Nat.le_of_ble_eq_true rfl, Nat.le_of_ble_eq_true rfl⟩ (fun r_6 u_6 H locs hw_6 hP hD hS => ?_)
        have hP : va_P (dC, dI) vwCl (wW cA v0 v1 v2 bt wz op dp) H := hP
        have hD : va_D A (wW cA v0 v1 v2 bt wz op dp) := hD
        have hw_6 : r_6 = nI (intSz v) := hw_6
        have hw_6 := hw_6.symm
        subst hw_6
        have hz_6 := intSz_le v
        refine lv_istore_n (lv' := [(2, .int (nI (intSz v))), (0, .ref v0), (1, .int v)]) hx hb dX2_addInteger_22 rfl hl (by decide) rfl (fun ls hl => ?_)
        refine lv_aload_n hx hb dX2_addInteger_23 rfl (lv_at hl 1 rfl) ?_
        refine lv_iload_n hx hb dX2_addInteger_24 rfl (lv_at hl 0 rfl) ?_
        refine cl_Vi (As := [.int (nI (intSz v))]) (rest := []) (wr := []) ⟨hx, hb, hml, hown, hts⟩ (k_X2_hasRoom l dC dI cA v0 v1 v2 bt wz op dp (intSz v) _ hwz (by omega)) (cwV 1 hts gX2_addInteger_X2_hasRoom rfl rfl rfl (by decide +kernel) ⟨Nat.le_of_ble_eq_true rfl, Nat.le_of_ble_eq_true rfl⟩) hK hP hD hS hA [0, 1, 2] [] rfl rfl (by decide) (by decide) (by decide) (ci := 1) (q0 := 0) rfl rfl rfl rfl hl.1 rfl (Nat.le_of_ble_eq_true rfl) dX2_addInteger_25 ⟨Nat.le_of_ble_eq_true rfl, Nat.le_of_ble_eq_true rfl⟩ (fun r_7 u_7 H locs hw_7 hP hD hS => ?_)
        have hP : va_P (dC, dI) vwCl (wW cA v0 v1 v2 bt wz op dp) H := hP
        have hD : va_D A (wW cA v0 v1 v2 bt wz op dp) := hD
        have hw_7 : r_7 = if wz + (intSz v) ≤ 300 then 1 else 0 := hw_7
        have hw_7 := hw_7.symm
        subst hw_7
        refine hl_ifb_ne (tgt := 34) hx hb dX2_addInteger_28 (by decide) (fun c_8 => ?_) (fun c_8 => ?_)
        · refine lv_iload_n hx hb dX2_addInteger_34 rfl (lv_at hl 0 rfl) ?_
          refine lv_iconst (v := nI 1) hx hb dX2_addInteger_35 (by decide) ?_
          refine lv_isub hx hb dX2_addInteger_36 ?_
          rw [show nI (intSz v) - nI 1 = mI (intSz v) from mI_sub (intSz v)]
          refine lv_istore_n (lv' := [(3, .int (mI (intSz v))), (2, .int (nI (intSz v))), (0, .ref v0), (1, .int v)]) hx hb dX2_addInteger_37 rfl hl (by decide) rfl (fun ls hl => ?_)
          have lp_38 : ∀ (nf : Nat) (k : Nat) (bt1 : Nat → Nat) (wz1 : Nat), k < nf → (k ≤ intSz v) → (bt1 = pB bt wz (byN v) (intSz v) (intSz v - k)) → (wz1 = wz + (intSz v - k)) → ∀ (H : Heap) (locs : List Loc) (ls : Array Slot), va_P (dC, dI) vwCl (wW cA v0 v1 v2 bt1 wz1 op dp) H → va_D A (wW cA v0 v1 v2 bt1 wz1 op dp) → va_S A s.heap H locs → lv_has ls 4 [(3, .int (mI k)), (2, .int (nI (intSz v))), (0, .ref v0), (1, .int v)] → W p l e (headSpec wsX2_addInteger ({ frames := 1, cells := 0, slots := 0, locals := 21 } : Room)).room s m ([.ref v0, .int v] : List Value).toArray below meth c H locs 0 0 (MQ below (qX2_addInteger dC dI cA A v0 v1 v2 bt wz op dp v) ([.ref v0, .int v] : List Value).toArray s 0 0 A) (F0 m 38 ls []) := by
            intro nf
            induction nf with
            | zero =>
              intro k bt1 wz1 hm
              exact absurd hm (Nat.not_lt_zero _)
            | succ nf ih_38 =>
              intro k bt1 wz1 hm hk hbt1 hwz1 H locs ls hP hD hS hl
              cases k with
              | zero =>
                refine lv_iload_n hx hb dX2_addInteger_38 rfl (lv_at hl 0 rfl) ?_
                refine lv_if_lt (tgt := 62) hx hb dX2_addInteger_39 (by decide) (fun c_10 => ?_) (fun c_10 => absurd (by decide) c_10)
                refine lv_iconst (v := nI 0) hx hb dX2_addInteger_62 (by decide) ?_
                have hP9 : va_P (dC, dI) vwCl (vX2_addInteger cA v0 v1 v2 bt wz op dp v (bt1, wz1)) _ := hP
                have hD9 : va_D A (vX2_addInteger cA v0 v1 v2 bt wz op dp v (bt1, wz1)) := hD
                have hq9 : pX2_addInteger v0 v1 v2 bt wz op dp v (nI 0) (bt1, wz1) := (by have e : piC v dp wz bt op = 0 := (by unfold piC; rw [if_neg (by omega), if_neg (by omega)]); exact ⟨e.symm, Or.inl ⟨e, by omega, hbt1, by omega⟩⟩)
                exact W.iret (v := nI 0) hx hb hr (fun t ht hW => ⟨⟨nI 0, (bt1, wz1), rfl, hq9, by rw [ht]; exact hP9, va_K.moved hW.alike hK, hD9⟩, hS.F ht⟩) hS.2.2 dX2_addInteger_63
              | succ k =>
                have hl : lv_has ls 4 [(3, .int (nI k)), (2, .int (nI (intSz v))), (0, .ref v0), (1, .int v)] := hl
                refine lv_iload_n hx hb dX2_addInteger_38 rfl (lv_at hl 0 rfl) ?_
                refine hl_if_lt (tgt := 62) hx hb dX2_addInteger_39 (by decide) (by omega) (fun c_11 => absurd c_11 (by omega)) (fun c_11 => ?_)
                refine lv_aload_n hx hb dX2_addInteger_42 rfl (lv_at hl 2 rfl) ?_
                refine lv_iload_n hx hb dX2_addInteger_43 rfl (lv_at hl 3 rfl) ?_
                refine lv_bipush (v := nI 8) hx hb dX2_addInteger_44 (by decide) ?_
                refine lv_iload_n hx hb dX2_addInteger_46 rfl (lv_at hl 0 rfl) ?_
                refine hl_imul hx hb dX2_addInteger_47 ?_
                refine lv_ishr hx hb dX2_addInteger_48 ?_
                refine lv_sipush (v := nI 255) hx hb dX2_addInteger_49 (by decide) ?_
                refine lv_iand hx hb dX2_addInteger_52 ?_
                refine hl_top (byN_eq v k) ?_
                refine cl_Vv (As := [.int (nI (byN v k))]) (rest := []) (wr := []) ⟨hx, hb, hml, hown, hts⟩ (k_X2_append l dC dI cA v0 v1 v2 bt1 wz1 op dp (byN v k) _ (by omega)) (cwV 1 hts gX2_addInteger_X2_append rfl rfl rfl (by decide +kernel) ⟨Nat.le_of_ble_eq_true rfl, Nat.le_of_ble_eq_true rfl⟩) hK hP hD hS hA [0, 1, 2] [] rfl rfl (by decide) (by decide) (by decide) (ci := 1) (q0 := 0) rfl rfl rfl rfl hl.1 rfl (Nat.le_of_ble_eq_true rfl) dX2_addInteger_53 ⟨Nat.le_of_ble_eq_true rfl, Nat.le_of_ble_eq_true rfl⟩ (fun u_12 H locs hw_12 hP hD hS => ?_)
                obtain ⟨bt2_12, wz2_12⟩ := u_12
                have hP : va_P (dC, dI) vwCl (wW cA v0 v1 v2 bt2_12 wz2_12 op dp) H := hP
                have hD : va_D A (wW cA v0 v1 v2 bt2_12 wz2_12 op dp) := hD
                have hw_12 : bt2_12 = va_up bt1 wz1 (byN v k) ∧ wz2_12 = wz1 + 1 := hw_12
                obtain ⟨e0_12, e1_12⟩ := hw_12
                have e0_12 := e0_12.symm
                subst e0_12
                have e1_12 := e1_12.symm
                subst e1_12
                refine lv_iinc (v := (mI k)) (lv' := [(3, .int (mI k)), (2, .int (nI (intSz v))), (0, .ref v0), (1, .int v)]) hx hb dX2_addInteger_56 hl (k := 0) rfl (mI_dec k) (by decide) rfl (fun ls hl => ?_)
                refine lv_goto (tgt := 38) hx hb dX2_addInteger_59 (by decide) ?_
                exact ih_38 k (va_up bt1 wz1 (byN v k)) (wz1 + 1) (by omega) (by omega) (by rw [hbt1, hwz1]; exact pB_step _ _ _ hk) (by omega) _ _ _ hP hD hS (lv_sub hl [0, 1, 2, 3] rfl)
          exact lp_38 ((intSz v) + 1) (intSz v) bt wz (Nat.lt_succ_self _) (by omega) (by rw [Nat.sub_self]; rfl) (by rw [Nat.sub_self]; rfl) _ _ _ hP hD hS (lv_sub hl [0, 1, 2, 3] rfl)
        · refine lv_bipush (v := (-3)) hx hb dX2_addInteger_31 (by decide) ?_
          have hP9 : va_P (dC, dI) vwCl (vX2_addInteger cA v0 v1 v2 bt wz op dp v (bt, wz)) _ := hP
          have hD9 : va_D A (vX2_addInteger cA v0 v1 v2 bt wz op dp v (bt, wz)) := hD
          have hq9 : pX2_addInteger v0 v1 v2 bt wz op dp v ((-3)) (bt, wz) := (by have e : piC v dp wz bt op = (-3) := (by unfold piC; rw [if_neg (by omega), if_pos (by omega)]); exact ⟨e.symm, Or.inr ⟨by rw [e]; decide, rfl, rfl⟩⟩)
          exact W.iret (v := (-3)) hx hb hr (fun t ht hW => ⟨⟨(-3), (bt, wz), rfl, hq9, by rw [ht]; exact hP9, va_K.moved hW.alike hK, hD9⟩, hS.F ht⟩) hS.2.2 dX2_addInteger_33
      · refine lv_bipush (v := (-2)) hx hb dX2_addInteger_15 (by decide) ?_
        have hP9 : va_P (dC, dI) vwCl (vX2_addInteger cA v0 v1 v2 bt wz op dp v (bt, wz)) _ := hP
        have hD9 : va_D A (vX2_addInteger cA v0 v1 v2 bt wz op dp v (bt, wz)) := hD
        have hq9 : pX2_addInteger v0 v1 v2 bt wz op dp v ((-2)) (bt, wz) := (by have e : piC v dp wz bt op = (-2) := (by unfold piC; rw [if_pos (by omega)]); exact ⟨e.symm, Or.inr ⟨by rw [e]; decide, rfl, rfl⟩⟩)
        exact W.iret (v := (-2)) hx hb hr (fun t ht hW => ⟨⟨(-2), (bt, wz), rfl, hq9, by rw [ht]; exact hP9, va_K.moved hW.alike hK, hD9⟩, hS.F ht⟩) hS.2.2 dX2_addInteger_17
abbrev pX2_addPart (v0 : Nat) (v1 : Nat) (v2 : Nat) (bt : Nat → Nat) (wz : Nat) (op : Nat → Nat) (dp : Nat) (v : Int32) : Int32 → (Nat → Nat) × Nat → Prop := fun (r : Int32) (u : (Nat → Nat) × Nat) => match u with | (bt2, wz2) => r = ppC v dp wz bt op ∧ ((ppC v dp wz bt op = 0 ∧ wz + partSz v ≤ 300 ∧ bt2 = pB bt wz (bpN v) (partSz v) (partSz v) ∧ wz2 = wz + partSz v) ∨ (ppC v dp wz bt op ≠ 0 ∧ bt2 = bt ∧ wz2 = wz))
abbrev vX2_addPart (cA : ClassId) (v0 : Nat) (v1 : Nat) (v2 : Nat) (bt : Nat → Nat) (wz : Nat) (op : Nat → Nat) (dp : Nat) (v : Int32) : (Nat → Nat) × Nat → va_W := fun (u : (Nat → Nat) × Nat) => match u with | (bt2, wz2) => wW cA v0 v1 v2 bt2 wz2 op dp
abbrev qX2_addPart (dC : Nat → ClassId) (dI : Nat → Nat → Nat) (cA : ClassId) (A : Nat → Prop) (v0 : Nat) (v1 : Nat) (v2 : Nat) (bt : Nat → Nat) (wz : Nat) (op : Nat → Nat) (dp : Nat) (v : Int32) : Array Value → State → Outcome → State → Prop := va_Qi (pX2_addPart v0 v1 v2 bt wz op dp v) (fun u => cAft dC dI cA A (vX2_addPart cA v0 v1 v2 bt wz op dp v u)) A
set_option maxHeartbeats 4000000 in
set_option maxRecDepth 100000 in
theorem k_X2_addPart (l : Launch) (dC : Nat → ClassId) (dI : Nat → Nat → Nat) (cA : ClassId) (v0 : Nat) (v1 : Nat) (v2 : Nat) (bt : Nat → Nat) (wz : Nat) (op : Nat → Nat) (dp : Nat) (v : Int32) (sz : Nat) (hbt : ∀ j, bt j < 256) (hwz : wz ≤ 300) (hdp : dp ≤ 16) (hop : ∀ j, j < dp → op j < wz) : Met l yX2_addPart wsX2_addPart ({ frames := 1, cells := 0, slots := 0, locals := 21 } : Room) (va_Pc [.ref v0, .int v] (cPre dC dI cA (wW cA v0 v1 v2 bt wz op dp) sz)) (qX2_addPart dC dI cA (va_A (wW cA v0 v1 v2 bt wz op dp) sz) v0 v1 v2 bt wz op dp v) 0 0 (va_A (wW cA v0 v1 v2 bt wz op dp) sz) := by
  refine Met.ofW (cc := cX2_addPart) (maxL := 5) (ret := (some .int)) (by decide) rfl ?_
  intro p e s m args below meth c s₁ B hml hv
  obtain ⟨rfl, hsz, hP, hK, hD0⟩ := hv
  have hx := B.exec
  have hb := B.bytes
  have hr := B.returns
  have hts := atoms_spec (ws := wsX2_addPart) B.pre
  have hown : s.vm.findClass RX2 = some m.cls := findClass_of_methodNamed B.named
  have hlocks := B.notSynchronized
  subst hsz
  have hD := hD0.self (sz := s.heap.size)
  generalize hAe : va_A (wW cA v0 v1 v2 bt wz op dp) s.heap.size = A at hD ⊢
  have hA : ∀ q : Nat, s.heap.size ≤ q → A q := fun q h => by rw [← hAe]; exact Or.inr h
  have hS : va_S A s.heap s.heap [] := va_S.rf
  have hl := lv_entry ([.ref v0, .int v]) (n := 5) (Nat.le_of_ble_eq_true rfl)
  rw [lg_entry_eq]
  generalize (lg_sl ([.ref v0, .int v]) ++ List.replicate (5 - (lg_sl ([.ref v0, .int v])).length) Slot.unset).toArray = ls at hl ⊢
  have hl : lv_has ls 5 [(0, .ref v0), (1, .int v)] := hl
  have hinX2 : ∀ w ∈ wsX20, w ∈ wsX2_addPart := fun _ h => List.mem_cons_of_mem _ (List.mem_append_right _ h)
  have hP : va_P (dC, dI) vwCl (wW cA v0 v1 v2 bt wz op dp) s.heap := hP
  refine lv_iload_n hx hb dX2_addPart_0 rfl (lv_at hl 1 rfl) ?_
  refine lv_if_ge (tgt := 6) hx hb dX2_addPart_1 (by decide) (fun c_1 => ?_) (fun c_1 => ?_)
  · refine lv_aload_n hx hb dX2_addPart_6 rfl (lv_at hl 0 rfl) ?_
    refine cl_Vi (As := []) (rest := []) (wr := []) ⟨hx, hb, hml, hown, hts⟩ (k_X2_openTag l dC dI cA v0 v1 v2 bt wz op dp _ hbt hwz hdp hop) (cwV 0 hts gX2_addPart_X2_openTag rfl rfl rfl (by decide +kernel) ⟨Nat.le_of_ble_eq_true rfl, Nat.le_of_ble_eq_true rfl⟩) hK hP hD hS hA [0, 1, 2] [] rfl rfl (by decide) (by decide) (by decide) (ci := 1) (q0 := 0) rfl rfl rfl rfl hl.1 rfl (Nat.le_of_ble_eq_true rfl) dX2_addPart_7 ⟨Nat.le_of_ble_eq_true rfl, Nat.le_of_ble_eq_true rfl⟩ (fun r_2 u_2 H locs hw_2 hP hD hS => ?_)
    have hP : va_P (dC, dI) vwCl (wW cA v0 v1 v2 bt wz op dp) H := hP
    have hD : va_D A (wW cA v0 v1 v2 bt wz op dp) := hD
    have hw_2 : (dp = 0 ∧ r_2 = -1) ∨ (0 < dp ∧ r_2 = nI (bt (op (dp - 1)))) := hw_2
    rcases hw_2 with ⟨hd0_2, e1_2⟩ | ⟨hd0_2, e1_2⟩
    · have e1_2 := e1_2.symm
      subst e1_2
      refine lv_bipush (v := nI 6) hx hb dX2_addPart_10 (by decide) ?_
      refine lv_icmp_eq (tgt := 18) hx hb dX2_addPart_12 (by decide) (fun c_3 => absurd c_3 (by decide)) (fun c_3 => ?_)
      refine lv_bipush (v := (-2)) hx hb dX2_addPart_15 (by decide) ?_
      have hP9 : va_P (dC, dI) vwCl (vX2_addPart cA v0 v1 v2 bt wz op dp v (bt, wz)) _ := hP
      have hD9 : va_D A (vX2_addPart cA v0 v1 v2 bt wz op dp v (bt, wz)) := hD
      have hq9 : pX2_addPart v0 v1 v2 bt wz op dp v ((-2)) (bt, wz) := (by have e : ppC v dp wz bt op = (-2) := (by unfold ppC; rw [if_neg (Int32.not_lt.mpr (by assumption)), if_pos (by omega)]); exact ⟨e.symm, Or.inr ⟨by rw [e]; decide, rfl, rfl⟩⟩)
      exact W.iret (v := (-2)) hx hb hr (fun t ht hW => ⟨⟨(-2), (bt, wz), rfl, hq9, by rw [ht]; exact hP9, va_K.moved hW.alike hK, hD9⟩, hS.F ht⟩) hS.2.2 dX2_addPart_17
    · have e1_2 := e1_2.symm
      subst e1_2
      have hv_2 := hbt (op (dp - 1))
      refine lv_bipush (v := nI 6) hx hb dX2_addPart_10 (by decide) ?_
      refine hl_icmp_eq (tgt := 18) hx hb dX2_addPart_12 (by decide) (by omega) (by omega) (fun c_4 => ?_) (fun c_4 => ?_)
      · refine lv_iload_n hx hb dX2_addPart_18 rfl (lv_at hl 1 rfl) ?_
        refine cl_Si (As := [.int v]) (rest := []) (wr := [(v0, .inr (1, [.ref v1, .int (nI wz), .ref v2, .int (nI dp)])), (v1, .inl (cA, 300, .inl (nA bt))), (v2, .inl (cA, 16, .inl (nA op)))]) ⟨hx, hb, hml, hown, hts⟩ (k_X2_partSize l dC dI cA v _ ) (va_cwS 1 hts gX2_addPart_X2_partSize rfl rfl rfl (by decide +kernel) ⟨Nat.le_of_ble_eq_true rfl, Nat.le_of_ble_eq_true rfl⟩) hK hP hD hS hA [] [0, 1, 2] rfl rfl (by decide) (by decide) (by decide) rfl hl.1 rfl (Nat.le_of_ble_eq_true rfl) dX2_addPart_19 ⟨Nat.le_of_ble_eq_true rfl, Nat.le_of_ble_eq_true rfl⟩ (fun r_5 u_5 H locs hw_5 hP hD hS => ?_)
        have hP : va_P (dC, dI) vwCl (wW cA v0 v1 v2 bt wz op dp) H := hP
        have hD : va_D A (wW cA v0 v1 v2 bt wz op dp) := hD
        have hw_5 : r_5 = nI (partSz v) := hw_5
        have hw_5 := hw_5.symm
        subst hw_5
        have hz_5 := partSz_le v
        refine lv_istore_n (lv' := [(2, .int (nI (partSz v))), (0, .ref v0), (1, .int v)]) hx hb dX2_addPart_22 rfl hl (by decide) rfl (fun ls hl => ?_)
        refine lv_aload_n hx hb dX2_addPart_23 rfl (lv_at hl 1 rfl) ?_
        refine lv_iload_n hx hb dX2_addPart_24 rfl (lv_at hl 0 rfl) ?_
        refine cl_Vi (As := [.int (nI (partSz v))]) (rest := []) (wr := []) ⟨hx, hb, hml, hown, hts⟩ (k_X2_hasRoom l dC dI cA v0 v1 v2 bt wz op dp (partSz v) _ hwz (by omega)) (cwV 1 hts gX2_addPart_X2_hasRoom rfl rfl rfl (by decide +kernel) ⟨Nat.le_of_ble_eq_true rfl, Nat.le_of_ble_eq_true rfl⟩) hK hP hD hS hA [0, 1, 2] [] rfl rfl (by decide) (by decide) (by decide) (ci := 1) (q0 := 0) rfl rfl rfl rfl hl.1 rfl (Nat.le_of_ble_eq_true rfl) dX2_addPart_25 ⟨Nat.le_of_ble_eq_true rfl, Nat.le_of_ble_eq_true rfl⟩ (fun r_6 u_6 H locs hw_6 hP hD hS => ?_)
        have hP : va_P (dC, dI) vwCl (wW cA v0 v1 v2 bt wz op dp) H := hP
        have hD : va_D A (wW cA v0 v1 v2 bt wz op dp) := hD
        have hw_6 : r_6 = if wz + (partSz v) ≤ 300 then 1 else 0 := hw_6
        have hw_6 := hw_6.symm
        subst hw_6
        refine hl_ifb_ne (tgt := 34) hx hb dX2_addPart_28 (by decide) (fun c_7 => ?_) (fun c_7 => ?_)
        · refine lv_iload_n hx hb dX2_addPart_34 rfl (lv_at hl 0 rfl) ?_
          refine lv_iconst (v := nI 1) hx hb dX2_addPart_35 (by decide) ?_
          refine lv_isub hx hb dX2_addPart_36 ?_
          rw [show nI (partSz v) - nI 1 = mI (partSz v) from mI_sub (partSz v)]
          refine lv_istore_n (lv' := [(3, .int (mI (partSz v))), (2, .int (nI (partSz v))), (0, .ref v0), (1, .int v)]) hx hb dX2_addPart_37 rfl hl (by decide) rfl (fun ls hl => ?_)
          have lp_38 : ∀ (nf : Nat) (k : Nat) (bt1 : Nat → Nat) (wz1 : Nat), k < nf → (k ≤ partSz v) → (bt1 = pB bt wz (bpN v) (partSz v) (partSz v - k)) → (wz1 = wz + (partSz v - k)) → ∀ (H : Heap) (locs : List Loc) (ls : Array Slot), va_P (dC, dI) vwCl (wW cA v0 v1 v2 bt1 wz1 op dp) H → va_D A (wW cA v0 v1 v2 bt1 wz1 op dp) → va_S A s.heap H locs → lv_has ls 5 [(3, .int (mI k)), (2, .int (nI (partSz v))), (0, .ref v0), (1, .int v)] → W p l e (headSpec wsX2_addPart ({ frames := 1, cells := 0, slots := 0, locals := 21 } : Room)).room s m ([.ref v0, .int v] : List Value).toArray below meth c H locs 0 0 (MQ below (qX2_addPart dC dI cA A v0 v1 v2 bt wz op dp v) ([.ref v0, .int v] : List Value).toArray s 0 0 A) (F0 m 38 ls []) := by
            intro nf
            induction nf with
            | zero =>
              intro k bt1 wz1 hm
              exact absurd hm (Nat.not_lt_zero _)
            | succ nf ih_38 =>
              intro k bt1 wz1 hm hk hbt1 hwz1 H locs ls hP hD hS hl
              cases k with
              | zero =>
                refine lv_iload_n hx hb dX2_addPart_38 rfl (lv_at hl 0 rfl) ?_
                refine lv_if_lt (tgt := 78) hx hb dX2_addPart_39 (by decide) (fun c_9 => ?_) (fun c_9 => absurd (by decide) c_9)
                refine lv_iconst (v := nI 0) hx hb dX2_addPart_78 (by decide) ?_
                have hP9 : va_P (dC, dI) vwCl (vX2_addPart cA v0 v1 v2 bt wz op dp v (bt1, wz1)) _ := hP
                have hD9 : va_D A (vX2_addPart cA v0 v1 v2 bt wz op dp v (bt1, wz1)) := hD
                have hq9 : pX2_addPart v0 v1 v2 bt wz op dp v (nI 0) (bt1, wz1) := (by have e : ppC v dp wz bt op = 0 := (by unfold ppC; rw [if_neg (Int32.not_lt.mpr (by assumption)), if_neg (by omega), if_neg (by omega)]); exact ⟨e.symm, Or.inl ⟨e, by omega, hbt1, by omega⟩⟩)
                exact W.iret (v := nI 0) hx hb hr (fun t ht hW => ⟨⟨nI 0, (bt1, wz1), rfl, hq9, by rw [ht]; exact hP9, va_K.moved hW.alike hK, hD9⟩, hS.F ht⟩) hS.2.2 dX2_addPart_79
              | succ k =>
                have hl : lv_has ls 5 [(3, .int (nI k)), (2, .int (nI (partSz v))), (0, .ref v0), (1, .int v)] := hl
                refine lv_iload_n hx hb dX2_addPart_38 rfl (lv_at hl 0 rfl) ?_
                refine hl_if_lt (tgt := 78) hx hb dX2_addPart_39 (by decide) (by omega) (fun c_10 => absurd c_10 (by omega)) (fun c_10 => ?_)
                refine lv_iload_n hx hb dX2_addPart_42 rfl (lv_at hl 3 rfl) ?_
                refine lv_bipush (v := nI 7) hx hb dX2_addPart_43 (by decide) ?_
                refine lv_iload_n hx hb dX2_addPart_45 rfl (lv_at hl 0 rfl) ?_
                refine hl_imul hx hb dX2_addPart_46 ?_
                refine lv_ishr hx hb dX2_addPart_47 ?_
                refine lv_bipush (v := nI 127) hx hb dX2_addPart_48 (by decide) ?_
                refine lv_iand hx hb dX2_addPart_50 ?_
                refine hl_top (b7N_eq v k) ?_
                refine lv_istore (lv' := [(4, .int (nI (b7N v k))), (3, .int (nI k)), (2, .int (nI (partSz v))), (0, .ref v0), (1, .int v)]) hx hb dX2_addPart_51 hl (by decide) rfl (fun ls hl => ?_)
                refine lv_aload_n hx hb dX2_addPart_53 rfl (lv_at hl 3 rfl) ?_
                refine lv_iload_n hx hb dX2_addPart_54 rfl (lv_at hl 1 rfl) ?_
                refine hl_if_ne (tgt := 63) hx hb dX2_addPart_55 (by decide) (by omega) (fun c_11 => ?_) (fun c_11 => ?_)
                · refine lv_iload hx hb dX2_addPart_63 (lv_at hl 0 rfl) ?_
                  refine lv_sipush (v := nI 128) hx hb dX2_addPart_65 (by decide) ?_
                  refine lv_ior hx hb dX2_addPart_68 ?_
                  refine hl_top (show _ = nI (bpN v k) by unfold bpN; rw [if_neg (by assumption)]; exact or128 _ (b7N_lt v k)) ?_
                  refine cl_Vv (As := [.int (nI (bpN v k))]) (rest := []) (wr := []) ⟨hx, hb, hml, hown, hts⟩ (k_X2_append l dC dI cA v0 v1 v2 bt1 wz1 op dp (bpN v k) _ (by omega)) (cwV 1 hts gX2_addPart_X2_append rfl rfl rfl (by decide +kernel) ⟨Nat.le_of_ble_eq_true rfl, Nat.le_of_ble_eq_true rfl⟩) hK hP hD hS hA [0, 1, 2] [] rfl rfl (by decide) (by decide) (by decide) (ci := 1) (q0 := 0) rfl rfl rfl rfl hl.1 rfl (Nat.le_of_ble_eq_true rfl) dX2_addPart_69 ⟨Nat.le_of_ble_eq_true rfl, Nat.le_of_ble_eq_true rfl⟩ (fun u_12 H locs hw_12 hP hD hS => ?_)
                  obtain ⟨bt2_12, wz2_12⟩ := u_12
                  have hP : va_P (dC, dI) vwCl (wW cA v0 v1 v2 bt2_12 wz2_12 op dp) H := hP
                  have hD : va_D A (wW cA v0 v1 v2 bt2_12 wz2_12 op dp) := hD
                  have hw_12 : bt2_12 = va_up bt1 wz1 (bpN v k) ∧ wz2_12 = wz1 + 1 := hw_12
                  obtain ⟨e0_12, e1_12⟩ := hw_12
                  have e0_12 := e0_12.symm
                  subst e0_12
                  have e1_12 := e1_12.symm
                  subst e1_12
                  refine lv_iinc (v := (mI k)) (lv' := [(3, .int (mI k)), (4, .int (nI (b7N v k))), (2, .int (nI (partSz v))), (0, .ref v0), (1, .int v)]) hx hb dX2_addPart_72 hl (k := 1) rfl (mI_dec k) (by decide) rfl (fun ls hl => ?_)
                  refine lv_goto (tgt := 38) hx hb dX2_addPart_75 (by decide) ?_
                  exact ih_38 k (va_up bt1 wz1 (bpN v k)) (wz1 + 1) (by omega) (by omega) (by rw [hbt1, hwz1]; exact pB_step _ _ _ hk) (by omega) _ _ _ hP hD hS (lv_sub hl [0, 2, 3, 4] rfl)
                · refine lv_iload hx hb dX2_addPart_58 (lv_at hl 0 rfl) ?_
                  refine lv_goto (tgt := 69) hx hb dX2_addPart_60 (by decide) ?_
                  refine hl_top (show nI (b7N v k) = nI (bpN v k) by unfold bpN; rw [if_pos (by assumption)]) ?_
                  refine cl_Vv (As := [.int (nI (bpN v k))]) (rest := []) (wr := []) ⟨hx, hb, hml, hown, hts⟩ (k_X2_append l dC dI cA v0 v1 v2 bt1 wz1 op dp (bpN v k) _ (by omega)) (cwV 1 hts gX2_addPart_X2_append rfl rfl rfl (by decide +kernel) ⟨Nat.le_of_ble_eq_true rfl, Nat.le_of_ble_eq_true rfl⟩) hK hP hD hS hA [0, 1, 2] [] rfl rfl (by decide) (by decide) (by decide) (ci := 1) (q0 := 0) rfl rfl rfl rfl hl.1 rfl (Nat.le_of_ble_eq_true rfl) dX2_addPart_69 ⟨Nat.le_of_ble_eq_true rfl, Nat.le_of_ble_eq_true rfl⟩ (fun u_13 H locs hw_13 hP hD hS => ?_)
                  obtain ⟨bt2_13, wz2_13⟩ := u_13
                  have hP : va_P (dC, dI) vwCl (wW cA v0 v1 v2 bt2_13 wz2_13 op dp) H := hP
                  have hD : va_D A (wW cA v0 v1 v2 bt2_13 wz2_13 op dp) := hD
                  have hw_13 : bt2_13 = va_up bt1 wz1 (bpN v k) ∧ wz2_13 = wz1 + 1 := hw_13
                  obtain ⟨e0_13, e1_13⟩ := hw_13
                  have e0_13 := e0_13.symm
                  subst e0_13
                  have e1_13 := e1_13.symm
                  subst e1_13
                  refine lv_iinc (v := (mI k)) (lv' := [(3, .int (mI k)), (4, .int (nI (b7N v k))), (2, .int (nI (partSz v))), (0, .ref v0), (1, .int v)]) hx hb dX2_addPart_72 hl (k := 1) rfl (mI_dec k) (by decide) rfl (fun ls hl => ?_)
                  refine lv_goto (tgt := 38) hx hb dX2_addPart_75 (by decide) ?_
                  exact ih_38 k (va_up bt1 wz1 (bpN v k)) (wz1 + 1) (by omega) (by omega) (by rw [hbt1, hwz1]; exact pB_step _ _ _ hk) (by omega) _ _ _ hP hD hS (lv_sub hl [0, 2, 3, 4] rfl)
          exact lp_38 ((partSz v) + 1) (partSz v) bt wz (Nat.lt_succ_self _) (by omega) (by rw [Nat.sub_self]; rfl) (by rw [Nat.sub_self]; rfl) _ _ _ hP hD hS (lv_sub hl [0, 1, 2, 3] rfl)
        · refine lv_bipush (v := (-3)) hx hb dX2_addPart_31 (by decide) ?_
          have hP9 : va_P (dC, dI) vwCl (vX2_addPart cA v0 v1 v2 bt wz op dp v (bt, wz)) _ := hP
          have hD9 : va_D A (vX2_addPart cA v0 v1 v2 bt wz op dp v (bt, wz)) := hD
          have hq9 : pX2_addPart v0 v1 v2 bt wz op dp v ((-3)) (bt, wz) := (by have e : ppC v dp wz bt op = (-3) := (by unfold ppC; rw [if_neg (Int32.not_lt.mpr (by assumption)), if_neg (by omega), if_pos (by omega)]); exact ⟨e.symm, Or.inr ⟨by rw [e]; decide, rfl, rfl⟩⟩)
          exact W.iret (v := (-3)) hx hb hr (fun t ht hW => ⟨⟨(-3), (bt, wz), rfl, hq9, by rw [ht]; exact hP9, va_K.moved hW.alike hK, hD9⟩, hS.F ht⟩) hS.2.2 dX2_addPart_33
      · refine lv_bipush (v := (-2)) hx hb dX2_addPart_15 (by decide) ?_
        have hP9 : va_P (dC, dI) vwCl (vX2_addPart cA v0 v1 v2 bt wz op dp v (bt, wz)) _ := hP
        have hD9 : va_D A (vX2_addPart cA v0 v1 v2 bt wz op dp v (bt, wz)) := hD
        have hq9 : pX2_addPart v0 v1 v2 bt wz op dp v ((-2)) (bt, wz) := (by have e : ppC v dp wz bt op = (-2) := (by unfold ppC; rw [if_neg (Int32.not_lt.mpr (by assumption)), if_pos (by omega)]); exact ⟨e.symm, Or.inr ⟨by rw [e]; decide, rfl, rfl⟩⟩)
        exact W.iret (v := (-2)) hx hb hr (fun t ht hW => ⟨⟨(-2), (bt, wz), rfl, hq9, by rw [ht]; exact hP9, va_K.moved hW.alike hK, hD9⟩, hS.F ht⟩) hS.2.2 dX2_addPart_17
  · refine lv_iconst (v := (-1)) hx hb dX2_addPart_4 (by decide) ?_
    have hP9 : va_P (dC, dI) vwCl (vX2_addPart cA v0 v1 v2 bt wz op dp v (bt, wz)) _ := hP
    have hD9 : va_D A (vX2_addPart cA v0 v1 v2 bt wz op dp v (bt, wz)) := hD
    have hq9 : pX2_addPart v0 v1 v2 bt wz op dp v ((-1)) (bt, wz) := (by have e : ppC v dp wz bt op = (-1) := (by unfold ppC; rw [if_pos (Int32.not_le.mp (by assumption))]); exact ⟨e.symm, Or.inr ⟨by rw [e]; decide, rfl, rfl⟩⟩)
    exact W.iret (v := (-1)) hx hb hr (fun t ht hW => ⟨⟨(-1), (bt, wz), rfl, hq9, by rw [ht]; exact hP9, va_K.moved hW.alike hK, hD9⟩, hS.F ht⟩) hS.2.2 dX2_addPart_5
abbrev pX2_makeGap (v0 : Nat) (v1 : Nat) (v2 : Nat) (bt : Nat → Nat) (wz : Nat) (op : Nat → Nat) (dp : Nat) (pl : Nat) (cnt : Nat) : (Nat → Nat) × Nat → Prop := fun (u : (Nat → Nat) × Nat) => match u with | (bt2, wz2) => wz2 = wz + cnt ∧ (∀ j, j < pl → bt2 j = bt j) ∧ (∀ j, pl ≤ j → j < wz → bt2 (j + cnt) = bt j) ∧ (∀ j, bt2 j < 256)
abbrev vX2_makeGap (cA : ClassId) (v0 : Nat) (v1 : Nat) (v2 : Nat) (bt : Nat → Nat) (wz : Nat) (op : Nat → Nat) (dp : Nat) (pl : Nat) (cnt : Nat) : (Nat → Nat) × Nat → va_W := fun (u : (Nat → Nat) × Nat) => match u with | (bt2, wz2) => wW cA v0 v1 v2 bt2 wz2 op dp
abbrev qX2_makeGap (dC : Nat → ClassId) (dI : Nat → Nat → Nat) (cA : ClassId) (A : Nat → Prop) (v0 : Nat) (v1 : Nat) (v2 : Nat) (bt : Nat → Nat) (wz : Nat) (op : Nat → Nat) (dp : Nat) (pl : Nat) (cnt : Nat) : Array Value → State → Outcome → State → Prop := va_Qv (pX2_makeGap v0 v1 v2 bt wz op dp pl cnt) (fun u => cAft dC dI cA A (vX2_makeGap cA v0 v1 v2 bt wz op dp pl cnt u)) A
set_option maxHeartbeats 4000000 in
set_option maxRecDepth 100000 in
theorem k_X2_makeGap (l : Launch) (dC : Nat → ClassId) (dI : Nat → Nat → Nat) (cA : ClassId) (v0 : Nat) (v1 : Nat) (v2 : Nat) (bt : Nat → Nat) (wz : Nat) (op : Nat → Nat) (dp : Nat) (pl : Nat) (cnt : Nat) (sz : Nat) (hbt : ∀ j, bt j < 256) (hpl : 1 ≤ pl) (hplw : pl ≤ wz) (hcn : wz + cnt ≤ 300) : Met l yX2_makeGap wsX2_makeGap ({ frames := 0, cells := 0, slots := 0, locals := 0 } : Room) (va_Pc [.ref v0, .int (nI pl), .int (nI cnt)] (cPre dC dI cA (wW cA v0 v1 v2 bt wz op dp) sz)) (qX2_makeGap dC dI cA (va_A (wW cA v0 v1 v2 bt wz op dp) sz) v0 v1 v2 bt wz op dp pl cnt) 0 0 (va_A (wW cA v0 v1 v2 bt wz op dp) sz) := by
  refine Met.ofW (cc := cX2_makeGap) (maxL := 4) (ret := none) (by decide) rfl ?_
  intro p e s m args below meth c s₁ B hml hv
  obtain ⟨rfl, hsz, hP, hK, hD0⟩ := hv
  have hx := B.exec
  have hb := B.bytes
  have hr := B.returns
  have hts := atoms_spec (ws := wsX2_makeGap) B.pre
  have hown : s.vm.findClass RX2 = some m.cls := findClass_of_methodNamed B.named
  have hlocks := B.notSynchronized
  subst hsz
  have hD := hD0.self (sz := s.heap.size)
  generalize hAe : va_A (wW cA v0 v1 v2 bt wz op dp) s.heap.size = A at hD ⊢
  have hA : ∀ q : Nat, s.heap.size ≤ q → A q := fun q h => by rw [← hAe]; exact Or.inr h
  have hS : va_S A s.heap s.heap [] := va_S.rf
  have hl := lv_entry ([.ref v0, .int (nI pl), .int (nI cnt)]) (n := 4) (Nat.le_of_ble_eq_true rfl)
  rw [lg_entry_eq]
  generalize (lg_sl ([.ref v0, .int (nI pl), .int (nI cnt)]) ++ List.replicate (4 - (lg_sl ([.ref v0, .int (nI pl), .int (nI cnt)])).length) Slot.unset).toArray = ls at hl ⊢
  have hl : lv_has ls 4 [(0, .ref v0), (1, .int (nI pl)), (2, .int (nI cnt))] := hl
  have hinX2 : ∀ w ∈ wsX20, w ∈ wsX2_makeGap := fun _ h => List.mem_cons_of_mem _ (List.mem_append_right _ h)
  have hf_9 := hts (.fieldLink RX2 9 "DerDesk$Writer" "bytes" "[I") (by decide +kernel)
  have hf_15 := hts (.fieldLink RX2 15 "DerDesk$Writer" "size" "I") (by decide +kernel)
  have hP : va_P (dC, dI) vwCl (wW cA v0 v1 v2 bt wz op dp) s.heap := hP
  refine lv_aload_n hx hb dX2_makeGap_0 rfl (lv_at hl 0 rfl) ?_
  refine va_get (D := (dC, dI)) (ci := 1) (v := .int (nI wz)) (C := RX2) (T := TX2) (N := 4) hx hb hts hinX2 hown hK hP 0 rfl rfl 1 (by decide) hf_15 (fun _ h9 => h9) rfl dX2_makeGap_1 ?_
  refine lv_iconst (v := nI 1) hx hb dX2_makeGap_4 (by decide) ?_
  refine hl_isub hx hb (by omega) dX2_makeGap_5 ?_
  refine lv_istore_n (lv' := [(3, .int (nI (wz - 1))), (0, .ref v0), (1, .int (nI pl)), (2, .int (nI cnt))]) hx hb dX2_makeGap_6 rfl hl (by decide) rfl (fun ls hl => ?_)
  have lp_7 : ∀ (nf : Nat) (i : Nat) (bt1 : Nat → Nat), i < nf → (pl ≤ i + 1) → (i < wz) → (∀ j, j ≤ i + cnt → bt1 j = bt j) → (∀ j, i < j → j < wz → bt1 (j + cnt) = bt j) → (∀ j, bt1 j < 256) → ∀ (H : Heap) (locs : List Loc) (ls : Array Slot), va_P (dC, dI) vwCl (wW cA v0 v1 v2 bt1 wz op dp) H → va_D A (wW cA v0 v1 v2 bt1 wz op dp) → va_S A s.heap H locs → lv_has ls 4 [(3, .int (nI i)), (0, .ref v0), (1, .int (nI pl)), (2, .int (nI cnt))] → W p l e (headSpec wsX2_makeGap ({ frames := 0, cells := 0, slots := 0, locals := 0 } : Room)).room s m ([.ref v0, .int (nI pl), .int (nI cnt)] : List Value).toArray below meth c H locs 0 0 (MQ below (qX2_makeGap dC dI cA A v0 v1 v2 bt wz op dp pl cnt) ([.ref v0, .int (nI pl), .int (nI cnt)] : List Value).toArray s 0 0 A) (F0 m 7 ls []) := by
    intro nf
    induction nf with
    | zero =>
      intro i bt1 hm
      exact absurd hm (Nat.not_lt_zero _)
    | succ nf ih_7 =>
      intro i bt1 hm hi1 hi2 h1 h2 hb1 H locs ls hP hD hS hl
      refine lv_iload_n hx hb dX2_makeGap_7 rfl (lv_at hl 0 rfl) ?_
      refine lv_iload_n hx hb dX2_makeGap_8 rfl (lv_at hl 2 rfl) ?_
      refine hl_icmp_lt (tgt := 32) hx hb dX2_makeGap_9 (by decide) (by omega) (by omega) (fun c_2 => ?_) (fun c_2 => ?_)
      · refine lv_aload_n hx hb dX2_makeGap_32 rfl (lv_at hl 1 rfl) ?_
        refine lv_dup hx hb dX2_makeGap_33 rfl ?_
        refine va_get (D := (dC, dI)) (ci := 1) (v := .int (nI wz)) (C := RX2) (T := TX2) (N := 4) hx hb hts hinX2 hown hK hP 0 rfl rfl 1 (by decide) hf_15 (fun _ h9 => h9) rfl dX2_makeGap_34 ?_
        refine lv_iload_n hx hb dX2_makeGap_37 rfl (lv_at hl 3 rfl) ?_
        refine hl_iadd hx hb dX2_makeGap_38 ?_
        refine va_put (D := (dC, dI)) (ci := 1) (v := .int (nI (wz + cnt))) (ty := .int) (C := RX2) (T := TX2) (N := 4) hx hb hts hinX2 tyX2 tyX2_ok nmX2 hown hK hP hD hS 0 rfl rfl 1 (by decide) hf_15 (fun _ h9 => h9) rfl (by decide +kernel) rfl rfl (Nat.le_of_ble_eq_true rfl) dX2_makeGap_39 (fun H locs hP hD hS => ?_)
        have hP : va_P (dC, dI) vwCl (wW cA v0 v1 v2 bt1 (wz + cnt) op dp) H := hP
        have hD : va_D A (wW cA v0 v1 v2 bt1 (wz + cnt) op dp) := hD
        have hP9 : va_P (dC, dI) vwCl (vX2_makeGap cA v0 v1 v2 bt wz op dp pl cnt (bt1, wz + cnt)) _ := hP
        have hD9 : va_D A (vX2_makeGap cA v0 v1 v2 bt wz op dp pl cnt (bt1, wz + cnt)) := hD
        have hq9 : pX2_makeGap v0 v1 v2 bt wz op dp pl cnt (bt1, wz + cnt) := ⟨rfl, fun j hj => h1 j (by omega), fun j ha hb => h2 j (by omega) hb, hb1⟩
        exact W.vret hx hb hr (fun t ht hW => ⟨⟨(bt1, wz + cnt), rfl, hq9, by rw [ht]; exact hP9, va_K.moved hW.alike hK, hD9⟩, hS.F ht⟩) hS.2.2 dX2_makeGap_42
      · refine lv_aload_n hx hb dX2_makeGap_12 rfl (lv_at hl 1 rfl) ?_
        refine va_get (D := (dC, dI)) (ci := 1) (v := .ref v1) (C := RX2) (T := TX2) (N := 4) hx hb hts hinX2 hown hK hP 0 rfl rfl 0 (by decide) hf_9 (fun _ h9 => h9) rfl dX2_makeGap_13 ?_
        refine lv_iload_n hx hb dX2_makeGap_16 rfl (lv_at hl 0 rfl) ?_
        refine lv_iload_n hx hb dX2_makeGap_17 rfl (lv_at hl 3 rfl) ?_
        refine hl_iadd hx hb dX2_makeGap_18 ?_
        refine lv_aload_n hx hb dX2_makeGap_19 rfl (lv_at hl 1 rfl) ?_
        refine va_get (D := (dC, dI)) (ci := 1) (v := .ref v1) (C := RX2) (T := TX2) (N := 4) hx hb hts hinX2 hown hK hP 0 rfl rfl 0 (by decide) hf_9 (fun _ h9 => h9) rfl dX2_makeGap_20 ?_
        refine lv_iload_n hx hb dX2_makeGap_23 rfl (lv_at hl 0 rfl) ?_
        refine hl_iald hx hb hK hP 1 0 rfl rfl (by omega) (by decide) dX2_makeGap_24 ?_
        refine hl_iast hx hb hK hP hD hS 1 0 rfl rfl (by omega) (by decide) dX2_makeGap_25 (fun H locs hP hD hS => ?_)
        have hP : va_P (dC, dI) vwCl (wW cA v0 v1 v2 (va_up bt1 (i + cnt) (bt1 i)) wz op dp) H := hP
        have hD : va_D A (wW cA v0 v1 v2 (va_up bt1 (i + cnt) (bt1 i)) wz op dp) := hD
        refine lv_iinc (v := (nI (i - 1))) (lv' := [(3, .int (nI (i - 1))), (0, .ref v0), (1, .int (nI pl)), (2, .int (nI cnt))]) hx hb dX2_makeGap_26 hl (k := 0) rfl (nI_dec (by omega)) (by decide) rfl (fun ls hl => ?_)
        refine lv_goto (tgt := 7) hx hb dX2_makeGap_29 (by decide) ?_
        exact ih_7 (i - 1) (va_up bt1 (i + cnt) (bt1 i)) (by omega) (by omega) (by omega) (fun j hj => by rw [up_ne _ _ (by omega)]; exact h1 j (by omega)) (fun j ha hb => by by_cases e : j = i; rw [e, up_eq]; exact h1 i (by omega); rw [up_ne _ _ (by omega)]; exact h2 j (by omega) hb) (up_lt hb1 (hb1 i)) _ _ _ hP hD hS (lv_sub hl [0, 1, 2, 3] rfl)
  exact lp_7 ((wz - 1) + 1) (wz - 1) bt (Nat.lt_succ_self _) (by omega) (by omega) (fun j _ => rfl) (fun j h1 h2 => absurd h2 (by omega)) hbt _ _ _ hP hD hS (lv_sub hl [0, 1, 2, 3] rfl)
abbrev pX2_writeLength (v0 : Nat) (v1 : Nat) (v2 : Nat) (bt : Nat → Nat) (wz : Nat) (op : Nat → Nat) (dp : Nat) (pl : Nat) (n : Nat) (z : Nat) : (Nat → Nat) → Prop := fun (bt2 : (Nat → Nat)) => (∀ i, i < z → bt2 (pl + i) = lnB n z i) ∧ (∀ j, j < pl ∨ pl + z ≤ j → bt2 j = bt j) ∧ (∀ j, bt2 j < 256)
abbrev vX2_writeLength (cA : ClassId) (v0 : Nat) (v1 : Nat) (v2 : Nat) (bt : Nat → Nat) (wz : Nat) (op : Nat → Nat) (dp : Nat) (pl : Nat) (n : Nat) (z : Nat) : (Nat → Nat) → va_W := fun (bt2 : (Nat → Nat)) => wW cA v0 v1 v2 bt2 wz op dp
abbrev qX2_writeLength (dC : Nat → ClassId) (dI : Nat → Nat → Nat) (cA : ClassId) (A : Nat → Prop) (v0 : Nat) (v1 : Nat) (v2 : Nat) (bt : Nat → Nat) (wz : Nat) (op : Nat → Nat) (dp : Nat) (pl : Nat) (n : Nat) (z : Nat) : Array Value → State → Outcome → State → Prop := va_Qv (pX2_writeLength v0 v1 v2 bt wz op dp pl n z) (fun u => cAft dC dI cA A (vX2_writeLength cA v0 v1 v2 bt wz op dp pl n z u)) A
set_option maxHeartbeats 4000000 in
set_option maxRecDepth 100000 in
theorem k_X2_writeLength (l : Launch) (dC : Nat → ClassId) (dI : Nat → Nat → Nat) (cA : ClassId) (v0 : Nat) (v1 : Nat) (v2 : Nat) (bt : Nat → Nat) (wz : Nat) (op : Nat → Nat) (dp : Nat) (pl : Nat) (n : Nat) (z : Nat) (sz : Nat) (hbt : ∀ j, bt j < 256) (hz : z = lenSz n) (hn : n ≤ 300) (hpz : pl + z ≤ 300) : Met l yX2_writeLength wsX2_writeLength ({ frames := 0, cells := 0, slots := 0, locals := 0 } : Room) (va_Pc [.ref v0, .int (nI pl), .int (nI n), .int (nI z)] (cPre dC dI cA (wW cA v0 v1 v2 bt wz op dp) sz)) (qX2_writeLength dC dI cA (va_A (wW cA v0 v1 v2 bt wz op dp) sz) v0 v1 v2 bt wz op dp pl n z) 0 0 (va_A (wW cA v0 v1 v2 bt wz op dp) sz) := by
  refine Met.ofW (cc := cX2_writeLength) (maxL := 6) (ret := none) (by decide) rfl ?_
  intro p e s m args below meth c s₁ B hml hv
  obtain ⟨rfl, hsz, hP, hK, hD0⟩ := hv
  have hx := B.exec
  have hb := B.bytes
  have hr := B.returns
  have hts := atoms_spec (ws := wsX2_writeLength) B.pre
  have hown : s.vm.findClass RX2 = some m.cls := findClass_of_methodNamed B.named
  have hlocks := B.notSynchronized
  subst hsz
  have hD := hD0.self (sz := s.heap.size)
  generalize hAe : va_A (wW cA v0 v1 v2 bt wz op dp) s.heap.size = A at hD ⊢
  have hA : ∀ q : Nat, s.heap.size ≤ q → A q := fun q h => by rw [← hAe]; exact Or.inr h
  have hS : va_S A s.heap s.heap [] := va_S.rf
  have hl := lv_entry ([.ref v0, .int (nI pl), .int (nI n), .int (nI z)]) (n := 6) (Nat.le_of_ble_eq_true rfl)
  rw [lg_entry_eq]
  generalize (lg_sl ([.ref v0, .int (nI pl), .int (nI n), .int (nI z)]) ++ List.replicate (6 - (lg_sl ([.ref v0, .int (nI pl), .int (nI n), .int (nI z)])).length) Slot.unset).toArray = ls at hl ⊢
  have hl : lv_has ls 6 [(0, .ref v0), (1, .int (nI pl)), (2, .int (nI n)), (3, .int (nI z))] := hl
  have hinX2 : ∀ w ∈ wsX20, w ∈ wsX2_writeLength := fun _ h => List.mem_cons_of_mem _ (List.mem_append_right _ h)
  have hf_9 := hts (.fieldLink RX2 9 "DerDesk$Writer" "bytes" "[I") (by decide +kernel)
  have hP : va_P (dC, dI) vwCl (wW cA v0 v1 v2 bt wz op dp) s.heap := hP
  have hzl := lenSz_le n
  have hz1 : z = 1 → n < 128 := fun e => by rw [hz] at e; unfold lenSz at e; (repeat' split at e) <;> omega
  rcases (show z = 1 ∨ z = 2 ∨ z = 3 by omega) with ez | ez | ez
  · have hl : lv_has ls 6 [(0, .ref v0), (1, .int (nI pl)), (2, .int (nI n)), (3, .int (nI 1))] := by rw [show nI 1 = nI z by rw [ez]]; exact hl
    have hn1 := hz1 ez
    refine lv_iload_n hx hb dX2_writeLength_0 rfl (lv_at hl 3 rfl) ?_
    refine lv_iconst (v := nI 1) hx hb dX2_writeLength_1 (by decide) ?_
    refine hl_icmp_ne (tgt := 13) hx hb dX2_writeLength_2 (by decide) (by omega) (by omega) (fun c_1 => absurd c_1 (by decide)) (fun c_1 => ?_)
    refine lv_aload_n hx hb dX2_writeLength_5 rfl (lv_at hl 0 rfl) ?_
    refine va_get (D := (dC, dI)) (ci := 1) (v := .ref v1) (C := RX2) (T := TX2) (N := 4) hx hb hts hinX2 hown hK hP 0 rfl rfl 0 (by decide) hf_9 (fun _ h9 => h9) rfl dX2_writeLength_6 ?_
    refine lv_iload_n hx hb dX2_writeLength_9 rfl (lv_at hl 1 rfl) ?_
    refine lv_iload_n hx hb dX2_writeLength_10 rfl (lv_at hl 2 rfl) ?_
    refine hl_iast hx hb hK hP hD hS 1 0 rfl rfl (by omega) (by decide) dX2_writeLength_11 (fun H locs hP hD hS => ?_)
    have hP : va_P (dC, dI) vwCl (wW cA v0 v1 v2 (va_up bt pl n) wz op dp) H := hP
    have hD : va_D A (wW cA v0 v1 v2 (va_up bt pl n) wz op dp) := hD
    have hP9 : va_P (dC, dI) vwCl (vX2_writeLength cA v0 v1 v2 bt wz op dp pl n z (va_up bt pl n)) _ := hP
    have hD9 : va_D A (vX2_writeLength cA v0 v1 v2 bt wz op dp pl n z (va_up bt pl n)) := hD
    have hq9 : pX2_writeLength v0 v1 v2 bt wz op dp pl n z (va_up bt pl n) := ⟨fun i hi => by rw [ez] at hi ⊢; rw [show i = 0 by omega]; exact up_eq _ _ _, fun j hj => up_ne _ _ (by omega), up_lt hbt (by omega)⟩
    exact W.vret hx hb hr (fun t ht hW => ⟨⟨(va_up bt pl n), rfl, hq9, by rw [ht]; exact hP9, va_K.moved hW.alike hK, hD9⟩, hS.F ht⟩) hS.2.2 dX2_writeLength_12
  · have hl : lv_has ls 6 [(0, .ref v0), (1, .int (nI pl)), (2, .int (nI n)), (3, .int (nI 2))] := by rw [show nI 2 = nI z by rw [ez]]; exact hl
    refine lv_iload_n hx hb dX2_writeLength_0 rfl (lv_at hl 3 rfl) ?_
    refine lv_iconst (v := nI 1) hx hb dX2_writeLength_1 (by decide) ?_
    refine hl_icmp_ne (tgt := 13) hx hb dX2_writeLength_2 (by decide) (by omega) (by omega) (fun c_2 => ?_) (fun c_2 => absurd c_2 (by decide))
    refine lv_iload_n hx hb dX2_writeLength_13 rfl (lv_at hl 3 rfl) ?_
    refine lv_iconst (v := nI 1) hx hb dX2_writeLength_14 (by decide) ?_
    refine lv_isub hx hb dX2_writeLength_15 ?_
    refine hl_top (show _ = nI 1 by decide) ?_
    refine lv_istore (lv' := [(4, .int (nI 1)), (0, .ref v0), (1, .int (nI pl)), (2, .int (nI n)), (3, .int (nI 2))]) hx hb dX2_writeLength_16 hl (by decide) rfl (fun ls hl => ?_)
    refine lv_aload_n hx hb dX2_writeLength_18 rfl (lv_at hl 1 rfl) ?_
    refine va_get (D := (dC, dI)) (ci := 1) (v := .ref v1) (C := RX2) (T := TX2) (N := 4) hx hb hts hinX2 hown hK hP 0 rfl rfl 0 (by decide) hf_9 (fun _ h9 => h9) rfl dX2_writeLength_19 ?_
    refine lv_iload_n hx hb dX2_writeLength_22 rfl (lv_at hl 2 rfl) ?_
    refine lv_sipush (v := nI 128) hx hb dX2_writeLength_23 (by decide) ?_
    refine lv_iload hx hb dX2_writeLength_26 (lv_at hl 0 rfl) ?_
    refine lv_iadd hx hb dX2_writeLength_28 ?_
    refine hl_top (show _ = nI 129 by decide) ?_
    refine hl_iast hx hb hK hP hD hS 1 0 rfl rfl (by omega) (by decide) dX2_writeLength_29 (fun H locs hP hD hS => ?_)
    have hP : va_P (dC, dI) vwCl (wW cA v0 v1 v2 (va_up bt pl 129) wz op dp) H := hP
    have hD : va_D A (wW cA v0 v1 v2 (va_up bt pl 129) wz op dp) := hD
    refine lv_iconst (v := nI 1) hx hb dX2_writeLength_30 (by decide) ?_
    refine lv_istore (lv' := [(5, .int (nI 1)), (4, .int (nI 1)), (0, .ref v0), (1, .int (nI pl)), (2, .int (nI n)), (3, .int (nI 2))]) hx hb dX2_writeLength_31 hl (by decide) rfl (fun ls hl => ?_)
    refine lv_iload hx hb dX2_writeLength_33 (lv_at hl 0 rfl) ?_
    refine lv_iload hx hb dX2_writeLength_35 (lv_at hl 1 rfl) ?_
    refine hl_icmp_gt (tgt := 69) hx hb dX2_writeLength_37 (by decide) (by omega) (by omega) (fun c_3 => absurd c_3 (by decide)) (fun c_3 => ?_)
    refine lv_aload_n hx hb dX2_writeLength_40 rfl (lv_at hl 2 rfl) ?_
    refine va_get (D := (dC, dI)) (ci := 1) (v := .ref v1) (C := RX2) (T := TX2) (N := 4) hx hb hts hinX2 hown hK hP 0 rfl rfl 0 (by decide) hf_9 (fun _ h9 => h9) rfl dX2_writeLength_41 ?_
    refine lv_iload_n hx hb dX2_writeLength_44 rfl (lv_at hl 3 rfl) ?_
    refine lv_iload hx hb dX2_writeLength_45 (lv_at hl 0 rfl) ?_
    refine hl_iadd hx hb dX2_writeLength_47 ?_
    refine lv_iload_n hx hb dX2_writeLength_48 rfl (lv_at hl 4 rfl) ?_
    refine lv_bipush (v := nI 8) hx hb dX2_writeLength_49 (by decide) ?_
    refine lv_iload hx hb dX2_writeLength_51 (lv_at hl 1 rfl) ?_
    refine lv_iload hx hb dX2_writeLength_53 (lv_at hl 0 rfl) ?_
    refine lv_isub hx hb dX2_writeLength_55 ?_
    refine hl_top (show _ = nI 0 by decide) ?_
    refine lv_imul hx hb dX2_writeLength_56 ?_
    refine hl_top (show _ = nI 0 by decide) ?_
    refine lv_ishr hx hb dX2_writeLength_57 ?_
    refine lv_sipush (v := nI 255) hx hb dX2_writeLength_58 (by decide) ?_
    refine lv_iand hx hb dX2_writeLength_61 ?_
    refine hl_top (shr_and (n := n) (k := 0) (by omega) (nI 0 &&& 31) (by decide)) ?_
    refine hl_iast hx hb hK hP hD hS 1 0 rfl rfl (by omega) (by decide) dX2_writeLength_62 (fun H locs hP hD hS => ?_)
    have hP : va_P (dC, dI) vwCl (wW cA v0 v1 v2 (va_up (va_up bt pl 129) (pl + 1) (n / 2 ^ 0 % 256)) wz op dp) H := hP
    have hD : va_D A (wW cA v0 v1 v2 (va_up (va_up bt pl 129) (pl + 1) (n / 2 ^ 0 % 256)) wz op dp) := hD
    refine lv_iinc (v := (nI 2)) (lv' := [(5, .int (nI 2)), (4, .int (nI 1)), (0, .ref v0), (1, .int (nI pl)), (2, .int (nI n)), (3, .int (nI 2))]) hx hb dX2_writeLength_63 hl (k := 0) rfl (by decide) (by decide) rfl (fun ls hl => ?_)
    refine lv_goto (tgt := 33) hx hb dX2_writeLength_66 (by decide) ?_
    refine lv_iload hx hb dX2_writeLength_33 (lv_at hl 0 rfl) ?_
    refine lv_iload hx hb dX2_writeLength_35 (lv_at hl 1 rfl) ?_
    refine hl_icmp_gt (tgt := 69) hx hb dX2_writeLength_37 (by decide) (by omega) (by omega) (fun c_4 => ?_) (fun c_4 => absurd c_4 (by decide))
    have hP9 : va_P (dC, dI) vwCl (vX2_writeLength cA v0 v1 v2 bt wz op dp pl n z (va_up (va_up bt pl 129) (pl + 1) (n / 2 ^ 0 % 256))) _ := hP
    have hD9 : va_D A (vX2_writeLength cA v0 v1 v2 bt wz op dp pl n z (va_up (va_up bt pl 129) (pl + 1) (n / 2 ^ 0 % 256))) := hD
    have hq9 : pX2_writeLength v0 v1 v2 bt wz op dp pl n z (va_up (va_up bt pl 129) (pl + 1) (n / 2 ^ 0 % 256)) := ⟨fun i hi => by rw [ez] at hi ⊢; rcases (show i = 0 ∨ i = 1 by omega) with e | e <;> subst e <;> simp [va_up, lnB], fun j hj => by rw [up_ne _ _ (by omega), up_ne _ _ (by omega)], up_lt (up_lt hbt (by omega)) (Nat.mod_lt _ (by decide))⟩
    exact W.vret hx hb hr (fun t ht hW => ⟨⟨(va_up (va_up bt pl 129) (pl + 1) (n / 2 ^ 0 % 256)), rfl, hq9, by rw [ht]; exact hP9, va_K.moved hW.alike hK, hD9⟩, hS.F ht⟩) hS.2.2 dX2_writeLength_69
  · have hl : lv_has ls 6 [(0, .ref v0), (1, .int (nI pl)), (2, .int (nI n)), (3, .int (nI 3))] := by rw [show nI 3 = nI z by rw [ez]]; exact hl
    refine lv_iload_n hx hb dX2_writeLength_0 rfl (lv_at hl 3 rfl) ?_
    refine lv_iconst (v := nI 1) hx hb dX2_writeLength_1 (by decide) ?_
    refine hl_icmp_ne (tgt := 13) hx hb dX2_writeLength_2 (by decide) (by omega) (by omega) (fun c_5 => ?_) (fun c_5 => absurd c_5 (by decide))
    refine lv_iload_n hx hb dX2_writeLength_13 rfl (lv_at hl 3 rfl) ?_
    refine lv_iconst (v := nI 1) hx hb dX2_writeLength_14 (by decide) ?_
    refine lv_isub hx hb dX2_writeLength_15 ?_
    refine hl_top (show _ = nI 2 by decide) ?_
    refine lv_istore (lv' := [(4, .int (nI 2)), (0, .ref v0), (1, .int (nI pl)), (2, .int (nI n)), (3, .int (nI 3))]) hx hb dX2_writeLength_16 hl (by decide) rfl (fun ls hl => ?_)
    refine lv_aload_n hx hb dX2_writeLength_18 rfl (lv_at hl 1 rfl) ?_
    refine va_get (D := (dC, dI)) (ci := 1) (v := .ref v1) (C := RX2) (T := TX2) (N := 4) hx hb hts hinX2 hown hK hP 0 rfl rfl 0 (by decide) hf_9 (fun _ h9 => h9) rfl dX2_writeLength_19 ?_
    refine lv_iload_n hx hb dX2_writeLength_22 rfl (lv_at hl 2 rfl) ?_
    refine lv_sipush (v := nI 128) hx hb dX2_writeLength_23 (by decide) ?_
    refine lv_iload hx hb dX2_writeLength_26 (lv_at hl 0 rfl) ?_
    refine lv_iadd hx hb dX2_writeLength_28 ?_
    refine hl_top (show _ = nI 130 by decide) ?_
    refine hl_iast hx hb hK hP hD hS 1 0 rfl rfl (by omega) (by decide) dX2_writeLength_29 (fun H locs hP hD hS => ?_)
    have hP : va_P (dC, dI) vwCl (wW cA v0 v1 v2 (va_up bt pl 130) wz op dp) H := hP
    have hD : va_D A (wW cA v0 v1 v2 (va_up bt pl 130) wz op dp) := hD
    refine lv_iconst (v := nI 1) hx hb dX2_writeLength_30 (by decide) ?_
    refine lv_istore (lv' := [(5, .int (nI 1)), (4, .int (nI 2)), (0, .ref v0), (1, .int (nI pl)), (2, .int (nI n)), (3, .int (nI 3))]) hx hb dX2_writeLength_31 hl (by decide) rfl (fun ls hl => ?_)
    refine lv_iload hx hb dX2_writeLength_33 (lv_at hl 0 rfl) ?_
    refine lv_iload hx hb dX2_writeLength_35 (lv_at hl 1 rfl) ?_
    refine hl_icmp_gt (tgt := 69) hx hb dX2_writeLength_37 (by decide) (by omega) (by omega) (fun c_6 => absurd c_6 (by decide)) (fun c_6 => ?_)
    refine lv_aload_n hx hb dX2_writeLength_40 rfl (lv_at hl 2 rfl) ?_
    refine va_get (D := (dC, dI)) (ci := 1) (v := .ref v1) (C := RX2) (T := TX2) (N := 4) hx hb hts hinX2 hown hK hP 0 rfl rfl 0 (by decide) hf_9 (fun _ h9 => h9) rfl dX2_writeLength_41 ?_
    refine lv_iload_n hx hb dX2_writeLength_44 rfl (lv_at hl 3 rfl) ?_
    refine lv_iload hx hb dX2_writeLength_45 (lv_at hl 0 rfl) ?_
    refine hl_iadd hx hb dX2_writeLength_47 ?_
    refine lv_iload_n hx hb dX2_writeLength_48 rfl (lv_at hl 4 rfl) ?_
    refine lv_bipush (v := nI 8) hx hb dX2_writeLength_49 (by decide) ?_
    refine lv_iload hx hb dX2_writeLength_51 (lv_at hl 1 rfl) ?_
    refine lv_iload hx hb dX2_writeLength_53 (lv_at hl 0 rfl) ?_
    refine lv_isub hx hb dX2_writeLength_55 ?_
    refine hl_top (show _ = nI 1 by decide) ?_
    refine lv_imul hx hb dX2_writeLength_56 ?_
    refine hl_top (show _ = nI 8 by decide) ?_
    refine lv_ishr hx hb dX2_writeLength_57 ?_
    refine lv_sipush (v := nI 255) hx hb dX2_writeLength_58 (by decide) ?_
    refine lv_iand hx hb dX2_writeLength_61 ?_
    refine hl_top (shr_and (n := n) (k := 8) (by omega) (nI 8 &&& 31) (by decide)) ?_
    refine hl_iast hx hb hK hP hD hS 1 0 rfl rfl (by omega) (by decide) dX2_writeLength_62 (fun H locs hP hD hS => ?_)
    have hP : va_P (dC, dI) vwCl (wW cA v0 v1 v2 (va_up (va_up bt pl 130) (pl + 1) (n / 2 ^ 8 % 256)) wz op dp) H := hP
    have hD : va_D A (wW cA v0 v1 v2 (va_up (va_up bt pl 130) (pl + 1) (n / 2 ^ 8 % 256)) wz op dp) := hD
    refine lv_iinc (v := (nI 2)) (lv' := [(5, .int (nI 2)), (4, .int (nI 2)), (0, .ref v0), (1, .int (nI pl)), (2, .int (nI n)), (3, .int (nI 3))]) hx hb dX2_writeLength_63 hl (k := 0) rfl (by decide) (by decide) rfl (fun ls hl => ?_)
    refine lv_goto (tgt := 33) hx hb dX2_writeLength_66 (by decide) ?_
    refine lv_iload hx hb dX2_writeLength_33 (lv_at hl 0 rfl) ?_
    refine lv_iload hx hb dX2_writeLength_35 (lv_at hl 1 rfl) ?_
    refine hl_icmp_gt (tgt := 69) hx hb dX2_writeLength_37 (by decide) (by omega) (by omega) (fun c_7 => absurd c_7 (by decide)) (fun c_7 => ?_)
    refine lv_aload_n hx hb dX2_writeLength_40 rfl (lv_at hl 2 rfl) ?_
    refine va_get (D := (dC, dI)) (ci := 1) (v := .ref v1) (C := RX2) (T := TX2) (N := 4) hx hb hts hinX2 hown hK hP 0 rfl rfl 0 (by decide) hf_9 (fun _ h9 => h9) rfl dX2_writeLength_41 ?_
    refine lv_iload_n hx hb dX2_writeLength_44 rfl (lv_at hl 3 rfl) ?_
    refine lv_iload hx hb dX2_writeLength_45 (lv_at hl 0 rfl) ?_
    refine hl_iadd hx hb dX2_writeLength_47 ?_
    refine lv_iload_n hx hb dX2_writeLength_48 rfl (lv_at hl 4 rfl) ?_
    refine lv_bipush (v := nI 8) hx hb dX2_writeLength_49 (by decide) ?_
    refine lv_iload hx hb dX2_writeLength_51 (lv_at hl 1 rfl) ?_
    refine lv_iload hx hb dX2_writeLength_53 (lv_at hl 0 rfl) ?_
    refine lv_isub hx hb dX2_writeLength_55 ?_
    refine hl_top (show _ = nI 0 by decide) ?_
    refine lv_imul hx hb dX2_writeLength_56 ?_
    refine hl_top (show _ = nI 0 by decide) ?_
    refine lv_ishr hx hb dX2_writeLength_57 ?_
    refine lv_sipush (v := nI 255) hx hb dX2_writeLength_58 (by decide) ?_
    refine lv_iand hx hb dX2_writeLength_61 ?_
    refine hl_top (shr_and (n := n) (k := 0) (by omega) (nI 0 &&& 31) (by decide)) ?_
    refine hl_iast hx hb hK hP hD hS 1 0 rfl rfl (by omega) (by decide) dX2_writeLength_62 (fun H locs hP hD hS => ?_)
    have hP : va_P (dC, dI) vwCl (wW cA v0 v1 v2 (va_up (va_up (va_up bt pl 130) (pl + 1) (n / 2 ^ 8 % 256)) (pl + 2) (n / 2 ^ 0 % 256)) wz op dp) H := hP
    have hD : va_D A (wW cA v0 v1 v2 (va_up (va_up (va_up bt pl 130) (pl + 1) (n / 2 ^ 8 % 256)) (pl + 2) (n / 2 ^ 0 % 256)) wz op dp) := hD
    refine lv_iinc (v := (nI 3)) (lv' := [(5, .int (nI 3)), (4, .int (nI 2)), (0, .ref v0), (1, .int (nI pl)), (2, .int (nI n)), (3, .int (nI 3))]) hx hb dX2_writeLength_63 hl (k := 0) rfl (by decide) (by decide) rfl (fun ls hl => ?_)
    refine lv_goto (tgt := 33) hx hb dX2_writeLength_66 (by decide) ?_
    refine lv_iload hx hb dX2_writeLength_33 (lv_at hl 0 rfl) ?_
    refine lv_iload hx hb dX2_writeLength_35 (lv_at hl 1 rfl) ?_
    refine hl_icmp_gt (tgt := 69) hx hb dX2_writeLength_37 (by decide) (by omega) (by omega) (fun c_8 => ?_) (fun c_8 => absurd c_8 (by decide))
    have hP9 : va_P (dC, dI) vwCl (vX2_writeLength cA v0 v1 v2 bt wz op dp pl n z (va_up (va_up (va_up bt pl 130) (pl + 1) (n / 2 ^ 8 % 256)) (pl + 2) (n / 2 ^ 0 % 256))) _ := hP
    have hD9 : va_D A (vX2_writeLength cA v0 v1 v2 bt wz op dp pl n z (va_up (va_up (va_up bt pl 130) (pl + 1) (n / 2 ^ 8 % 256)) (pl + 2) (n / 2 ^ 0 % 256))) := hD
    have hq9 : pX2_writeLength v0 v1 v2 bt wz op dp pl n z (va_up (va_up (va_up bt pl 130) (pl + 1) (n / 2 ^ 8 % 256)) (pl + 2) (n / 2 ^ 0 % 256)) := ⟨fun i hi => by rw [ez] at hi ⊢; rcases (show i = 0 ∨ i = 1 ∨ i = 2 by omega) with e | e | e <;> subst e <;> simp [va_up, lnB], fun j hj => by rw [up_ne _ _ (by omega), up_ne _ _ (by omega), up_ne _ _ (by omega)], up_lt (up_lt (up_lt hbt (by omega)) (Nat.mod_lt _ (by decide))) (Nat.mod_lt _ (by decide))⟩
    exact W.vret hx hb hr (fun t ht hW => ⟨⟨(va_up (va_up (va_up bt pl 130) (pl + 1) (n / 2 ^ 8 % 256)) (pl + 2) (n / 2 ^ 0 % 256)), rfl, hq9, by rw [ht]; exact hP9, va_K.moved hW.alike hK, hD9⟩, hS.F ht⟩) hS.2.2 dX2_writeLength_69
abbrev pX2_close (v0 : Nat) (v1 : Nat) (v2 : Nat) (bt : Nat → Nat) (wz : Nat) (op : Nat → Nat) (dp : Nat) : Int32 → (Nat → Nat) × Nat × Nat → Prop := fun (r : Int32) (u : (Nat → Nat) × Nat × Nat) => match u with | (bt2, wz2, dp2) => r = enC dp wz bt op ∧ ((enC dp wz bt op = 0 ∧ 0 < dp ∧ wz + lenSz (enN dp wz op) ≤ 300 ∧ enB dp wz bt op bt2 ∧ wz2 = wz + lenSz (enN dp wz op) ∧ dp2 = dp - 1) ∨ (enC dp wz bt op = -4 ∧ 0 < dp ∧ bt2 = bt ∧ wz2 = op (dp - 1) ∧ dp2 = dp - 1) ∨ (enC dp wz bt op ≠ 0 ∧ enC dp wz bt op ≠ -4 ∧ bt2 = bt ∧ wz2 = wz ∧ dp2 = dp)) ∧ (∀ j, bt2 j < 256)
abbrev vX2_close (cA : ClassId) (v0 : Nat) (v1 : Nat) (v2 : Nat) (bt : Nat → Nat) (wz : Nat) (op : Nat → Nat) (dp : Nat) : (Nat → Nat) × Nat × Nat → va_W := fun (u : (Nat → Nat) × Nat × Nat) => match u with | (bt2, wz2, dp2) => wW cA v0 v1 v2 bt2 wz2 op dp2
abbrev qX2_close (dC : Nat → ClassId) (dI : Nat → Nat → Nat) (cA : ClassId) (A : Nat → Prop) (v0 : Nat) (v1 : Nat) (v2 : Nat) (bt : Nat → Nat) (wz : Nat) (op : Nat → Nat) (dp : Nat) : Array Value → State → Outcome → State → Prop := va_Qi (pX2_close v0 v1 v2 bt wz op dp) (fun u => cAft dC dI cA A (vX2_close cA v0 v1 v2 bt wz op dp u)) A
set_option maxHeartbeats 4000000 in
set_option maxRecDepth 100000 in
theorem k_X2_close (l : Launch) (dC : Nat → ClassId) (dI : Nat → Nat → Nat) (cA : ClassId) (v0 : Nat) (v1 : Nat) (v2 : Nat) (bt : Nat → Nat) (wz : Nat) (op : Nat → Nat) (dp : Nat) (sz : Nat) (hbt : ∀ j, bt j < 256) (hwz : wz ≤ 300) (hdp : dp ≤ 16) (hop : ∀ j, j < dp → op j < wz) : Met l yX2_close wsX2_close ({ frames := 2, cells := 0, slots := 0, locals := 47 } : Room) (va_Pc [.ref v0] (cPre dC dI cA (wW cA v0 v1 v2 bt wz op dp) sz)) (qX2_close dC dI cA (va_A (wW cA v0 v1 v2 bt wz op dp) sz) v0 v1 v2 bt wz op dp) 0 0 (va_A (wW cA v0 v1 v2 bt wz op dp) sz) := by
  refine Met.ofW (cc := cX2_close) (maxL := 5) (ret := (some .int)) (by decide) rfl ?_
  intro p e s m args below meth c s₁ B hml hv
  obtain ⟨rfl, hsz, hP, hK, hD0⟩ := hv
  have hx := B.exec
  have hb := B.bytes
  have hr := B.returns
  have hts := atoms_spec (ws := wsX2_close) B.pre
  have hown : s.vm.findClass RX2 = some m.cls := findClass_of_methodNamed B.named
  have hlocks := B.notSynchronized
  subst hsz
  have hD := hD0.self (sz := s.heap.size)
  generalize hAe : va_A (wW cA v0 v1 v2 bt wz op dp) s.heap.size = A at hD ⊢
  have hA : ∀ q : Nat, s.heap.size ≤ q → A q := fun q h => by rw [← hAe]; exact Or.inr h
  have hS : va_S A s.heap s.heap [] := va_S.rf
  have hl := lv_entry ([.ref v0]) (n := 5) (Nat.le_of_ble_eq_true rfl)
  rw [lg_entry_eq]
  generalize (lg_sl ([.ref v0]) ++ List.replicate (5 - (lg_sl ([.ref v0])).length) Slot.unset).toArray = ls at hl ⊢
  have hl : lv_has ls 5 [(0, .ref v0)] := hl
  have hinX2 : ∀ w ∈ wsX20, w ∈ wsX2_close := fun _ h => List.mem_cons_of_mem _ (List.mem_append_right _ h)
  have hf_9 := hts (.fieldLink RX2 9 "DerDesk$Writer" "bytes" "[I") (by decide +kernel)
  have hf_15 := hts (.fieldLink RX2 15 "DerDesk$Writer" "size" "I") (by decide +kernel)
  have hf_19 := hts (.fieldLink RX2 19 "DerDesk$Writer" "opened" "[I") (by decide +kernel)
  have hf_22 := hts (.fieldLink RX2 22 "DerDesk$Writer" "depth" "I") (by decide +kernel)
  have hP : va_P (dC, dI) vwCl (wW cA v0 v1 v2 bt wz op dp) s.heap := hP
  refine lv_aload_n hx hb dX2_close_0 rfl (lv_at hl 0 rfl) ?_
  refine va_get (D := (dC, dI)) (ci := 1) (v := .int (nI dp)) (C := RX2) (T := TX2) (N := 4) hx hb hts hinX2 hown hK hP 0 rfl rfl 3 (by decide) hf_22 (fun _ h9 => h9) rfl dX2_close_1 ?_
  refine hl_if_ne (tgt := 10) hx hb dX2_close_4 (by decide) (by omega) (fun c_1 => ?_) (fun c_1 => ?_)
  · refine lv_aload_n hx hb dX2_close_10 rfl (lv_at hl 0 rfl) ?_
    refine va_get (D := (dC, dI)) (ci := 1) (v := .ref v2) (C := RX2) (T := TX2) (N := 4) hx hb hts hinX2 hown hK hP 0 rfl rfl 2 (by decide) hf_19 (fun _ h9 => h9) rfl dX2_close_11 ?_
    refine lv_aload_n hx hb dX2_close_14 rfl (lv_at hl 0 rfl) ?_
    refine va_get (D := (dC, dI)) (ci := 1) (v := .int (nI dp)) (C := RX2) (T := TX2) (N := 4) hx hb hts hinX2 hown hK hP 0 rfl rfl 3 (by decide) hf_22 (fun _ h9 => h9) rfl dX2_close_15 ?_
    refine lv_iconst (v := nI 1) hx hb dX2_close_18 (by decide) ?_
    refine hl_isub hx hb (by omega) dX2_close_19 ?_
    refine hl_iald hx hb hK hP 2 0 rfl rfl (by omega) (by decide) dX2_close_20 ?_
    have ho := hop (dp - 1) (by omega)
    refine lv_istore_n (lv' := [(1, .int (nI (op (dp - 1)))), (0, .ref v0)]) hx hb dX2_close_21 rfl hl (by decide) rfl (fun ls hl => ?_)
    refine lv_iload_n hx hb dX2_close_22 rfl (lv_at hl 0 rfl) ?_
    refine lv_iconst (v := nI 1) hx hb dX2_close_23 (by decide) ?_
    refine hl_iadd hx hb dX2_close_24 ?_
    refine lv_istore_n (lv' := [(2, .int (nI ((op (dp - 1)) + 1))), (1, .int (nI (op (dp - 1)))), (0, .ref v0)]) hx hb dX2_close_25 rfl hl (by decide) rfl (fun ls hl => ?_)
    refine lv_aload_n hx hb dX2_close_26 rfl (lv_at hl 2 rfl) ?_
    refine va_get (D := (dC, dI)) (ci := 1) (v := .int (nI wz)) (C := RX2) (T := TX2) (N := 4) hx hb hts hinX2 hown hK hP 0 rfl rfl 1 (by decide) hf_15 (fun _ h9 => h9) rfl dX2_close_27 ?_
    refine lv_iload_n hx hb dX2_close_30 rfl (lv_at hl 0 rfl) ?_
    refine hl_isub hx hb (by omega) dX2_close_31 ?_
    refine lv_istore_n (lv' := [(3, .int (nI (wz - ((op (dp - 1)) + 1)))), (2, .int (nI ((op (dp - 1)) + 1))), (1, .int (nI (op (dp - 1)))), (0, .ref v0)]) hx hb dX2_close_32 rfl hl (by decide) rfl (fun ls hl => ?_)
    refine lv_aload_n hx hb dX2_close_33 rfl (lv_at hl 3 rfl) ?_
    refine va_get (D := (dC, dI)) (ci := 1) (v := .ref v1) (C := RX2) (T := TX2) (N := 4) hx hb hts hinX2 hown hK hP 0 rfl rfl 0 (by decide) hf_9 (fun _ h9 => h9) rfl dX2_close_34 ?_
    refine lv_iload_n hx hb dX2_close_37 rfl (lv_at hl 2 rfl) ?_
    refine hl_iald hx hb hK hP 1 0 rfl rfl (by omega) (by decide) dX2_close_38 ?_
    refine lv_aload_n hx hb dX2_close_39 rfl (lv_at hl 3 rfl) ?_
    refine va_get (D := (dC, dI)) (ci := 1) (v := .ref v1) (C := RX2) (T := TX2) (N := 4) hx hb hts hinX2 hown hK hP 0 rfl rfl 0 (by decide) hf_9 (fun _ h9 => h9) rfl dX2_close_40 ?_
    refine lv_iload_n hx hb dX2_close_43 rfl (lv_at hl 1 rfl) ?_
    refine lv_iload_n hx hb dX2_close_44 rfl (lv_at hl 0 rfl) ?_
    refine cl_Si (As := [.int (nI (bt (op (dp - 1)))), .ref v1, .int (nI ((op (dp - 1)) + 1)), .int (nI (wz - ((op (dp - 1)) + 1)))]) (rest := []) (wr := [(v0, .inr (1, [.ref v1, .int (nI wz), .ref v2, .int (nI dp)])), (v2, .inl (cA, 16, .inl (nA op)))]) ⟨hx, hb, hml, hown, hts⟩ (k_X1_hold l dC dI cA v1 bt (bt (op (dp - 1))) ((op (dp - 1)) + 1) (wz - ((op (dp - 1)) + 1)) _ (hbt _) hbt (by omega)) (va_cwS 4 hts gX2_close_X1_hold rfl rfl rfl (by decide +kernel) ⟨Nat.le_of_ble_eq_true rfl, Nat.le_of_ble_eq_true rfl⟩) hK hP hD hS hA [1] [0, 2] rfl rfl (by decide) (by decide) (by decide) rfl hl.1 rfl (Nat.le_of_ble_eq_true rfl) dX2_close_45 ⟨Nat.le_of_ble_eq_true rfl, Nat.le_of_ble_eq_true rfl⟩ (fun r_2 u_2 H locs hw_2 hP hD hS => ?_)
    have hP : va_P (dC, dI) vwCl (wW cA v0 v1 v2 bt wz op dp) H := hP.sub [0, 2, 1] rfl
    have hD : va_D A (wW cA v0 v1 v2 bt wz op dp) := hD.sub [0, 2, 1] (by decide) rfl
    have hw_2 : r_2 = if okC (bt (op (dp - 1))) bt ((op (dp - 1)) + 1) (wz - ((op (dp - 1)) + 1)) = true then 1 else 0 := hw_2
    have hw_2 := hw_2.symm
    subst hw_2
    refine hl_ifb_ne (tgt := 69) hx hb dX2_close_48 (by decide) (fun c_3 => ?_) (fun c_3 => ?_)
    · refine lv_iload_n hx hb dX2_close_69 rfl (lv_at hl 0 rfl) ?_
      refine cl_Si (As := [.int (nI (wz - ((op (dp - 1)) + 1)))]) (rest := []) (wr := [(v0, .inr (1, [.ref v1, .int (nI wz), .ref v2, .int (nI dp)])), (v1, .inl (cA, 300, .inl (nA bt))), (v2, .inl (cA, 16, .inl (nA op)))]) ⟨hx, hb, hml, hown, hts⟩ (k_X1_lengthSize l dC dI cA (wz - ((op (dp - 1)) + 1)) _ (by omega)) (va_cwS 1 hts gX2_close_X1_lengthSize rfl rfl rfl (by decide +kernel) ⟨Nat.le_of_ble_eq_true rfl, Nat.le_of_ble_eq_true rfl⟩) hK hP hD hS hA [] [0, 1, 2] rfl rfl (by decide) (by decide) (by decide) rfl hl.1 rfl (Nat.le_of_ble_eq_true rfl) dX2_close_70 ⟨Nat.le_of_ble_eq_true rfl, Nat.le_of_ble_eq_true rfl⟩ (fun r_4 u_4 H locs hw_4 hP hD hS => ?_)
      have hP : va_P (dC, dI) vwCl (wW cA v0 v1 v2 bt wz op dp) H := hP
      have hD : va_D A (wW cA v0 v1 v2 bt wz op dp) := hD
      have hw_4 : r_4 = nI (lenSz (wz - ((op (dp - 1)) + 1))) := hw_4
      have hw_4 := hw_4.symm
      subst hw_4
      have hz_4 := lenSz_le (wz - ((op (dp - 1)) + 1))
      refine lv_istore (lv' := [(4, .int (nI (lenSz (wz - ((op (dp - 1)) + 1))))), (3, .int (nI (wz - ((op (dp - 1)) + 1)))), (2, .int (nI ((op (dp - 1)) + 1))), (1, .int (nI (op (dp - 1)))), (0, .ref v0)]) hx hb dX2_close_73 hl (by decide) rfl (fun ls hl => ?_)
      refine lv_aload_n hx hb dX2_close_75 rfl (lv_at hl 4 rfl) ?_
      refine lv_iload hx hb dX2_close_76 (lv_at hl 0 rfl) ?_
      refine cl_Vi (As := [.int (nI (lenSz (wz - ((op (dp - 1)) + 1))))]) (rest := []) (wr := []) ⟨hx, hb, hml, hown, hts⟩ (k_X2_hasRoom l dC dI cA v0 v1 v2 bt wz op dp (lenSz (wz - ((op (dp - 1)) + 1))) _ hwz (by omega)) (cwV 1 hts gX2_close_X2_hasRoom rfl rfl rfl (by decide +kernel) ⟨Nat.le_of_ble_eq_true rfl, Nat.le_of_ble_eq_true rfl⟩) hK hP hD hS hA [0, 1, 2] [] rfl rfl (by decide) (by decide) (by decide) (ci := 1) (q0 := 0) rfl rfl rfl rfl hl.1 rfl (Nat.le_of_ble_eq_true rfl) dX2_close_78 ⟨Nat.le_of_ble_eq_true rfl, Nat.le_of_ble_eq_true rfl⟩ (fun r_5 u_5 H locs hw_5 hP hD hS => ?_)
      have hP : va_P (dC, dI) vwCl (wW cA v0 v1 v2 bt wz op dp) H := hP
      have hD : va_D A (wW cA v0 v1 v2 bt wz op dp) := hD
      have hw_5 : r_5 = if wz + (lenSz (wz - ((op (dp - 1)) + 1))) ≤ 300 then 1 else 0 := hw_5
      have hw_5 := hw_5.symm
      subst hw_5
      refine hl_ifb_ne (tgt := 87) hx hb dX2_close_81 (by decide) (fun c_6 => ?_) (fun c_6 => ?_)
      · refine lv_aload_n hx hb dX2_close_87 rfl (lv_at hl 4 rfl) ?_
        refine lv_iload_n hx hb dX2_close_88 rfl (lv_at hl 2 rfl) ?_
        refine lv_iload hx hb dX2_close_89 (lv_at hl 0 rfl) ?_
        refine cl_Vv (As := [.int (nI ((op (dp - 1)) + 1)), .int (nI (lenSz (wz - ((op (dp - 1)) + 1))))]) (rest := []) (wr := []) ⟨hx, hb, hml, hown, hts⟩ (k_X2_makeGap l dC dI cA v0 v1 v2 bt wz op dp ((op (dp - 1)) + 1) (lenSz (wz - ((op (dp - 1)) + 1))) _ hbt (by omega) (by omega) (by omega)) (cwV 2 hts gX2_close_X2_makeGap rfl rfl rfl (by decide +kernel) ⟨Nat.le_of_ble_eq_true rfl, Nat.le_of_ble_eq_true rfl⟩) hK hP hD hS hA [0, 1, 2] [] rfl rfl (by decide) (by decide) (by decide) (ci := 1) (q0 := 0) rfl rfl rfl rfl hl.1 rfl (Nat.le_of_ble_eq_true rfl) dX2_close_91 ⟨Nat.le_of_ble_eq_true rfl, Nat.le_of_ble_eq_true rfl⟩ (fun u_7 H locs hw_7 hP hD hS => ?_)
        obtain ⟨bt2_7, wz2_7⟩ := u_7
        have hP : va_P (dC, dI) vwCl (wW cA v0 v1 v2 bt2_7 wz2_7 op dp) H := hP
        have hD : va_D A (wW cA v0 v1 v2 bt2_7 wz2_7 op dp) := hD
        have hw_7 : wz2_7 = wz + (lenSz (wz - ((op (dp - 1)) + 1))) ∧ (∀ j, j < ((op (dp - 1)) + 1) → bt2_7 j = bt j) ∧ (∀ j, ((op (dp - 1)) + 1) ≤ j → j < wz → bt2_7 (j + (lenSz (wz - ((op (dp - 1)) + 1)))) = bt j) ∧ (∀ j, bt2_7 j < 256) := hw_7
        obtain ⟨eg, g1, g2, g3⟩ := hw_7
        have eg := eg.symm
        subst eg
        refine lv_aload_n hx hb dX2_close_94 rfl (lv_at hl 4 rfl) ?_
        refine lv_iload_n hx hb dX2_close_95 rfl (lv_at hl 2 rfl) ?_
        refine lv_iload_n hx hb dX2_close_96 rfl (lv_at hl 1 rfl) ?_
        refine lv_iload hx hb dX2_close_97 (lv_at hl 0 rfl) ?_
        refine cl_Vv (As := [.int (nI ((op (dp - 1)) + 1)), .int (nI (wz - ((op (dp - 1)) + 1))), .int (nI (lenSz (wz - ((op (dp - 1)) + 1))))]) (rest := []) (wr := []) ⟨hx, hb, hml, hown, hts⟩ (k_X2_writeLength l dC dI cA v0 v1 v2 bt2_7 (wz + (lenSz (wz - ((op (dp - 1)) + 1)))) op dp ((op (dp - 1)) + 1) (wz - ((op (dp - 1)) + 1)) (lenSz (wz - ((op (dp - 1)) + 1))) _ g3 rfl (by omega) (by omega)) (cwV 3 hts gX2_close_X2_writeLength rfl rfl rfl (by decide +kernel) ⟨Nat.le_of_ble_eq_true rfl, Nat.le_of_ble_eq_true rfl⟩) hK hP hD hS hA [0, 1, 2] [] rfl rfl (by decide) (by decide) (by decide) (ci := 1) (q0 := 0) rfl rfl rfl rfl hl.1 rfl (Nat.le_of_ble_eq_true rfl) dX2_close_99 ⟨Nat.le_of_ble_eq_true rfl, Nat.le_of_ble_eq_true rfl⟩ (fun u_8 H locs hw_8 hP hD hS => ?_)
        obtain ⟨bt2_8, eu_8⟩ : ∃ z, z = u_8 := ⟨_, rfl⟩
        subst eu_8
        have hP : va_P (dC, dI) vwCl (wW cA v0 v1 v2 bt2_8 (wz + (lenSz (wz - ((op (dp - 1)) + 1)))) op dp) H := hP
        have hD : va_D A (wW cA v0 v1 v2 bt2_8 (wz + (lenSz (wz - ((op (dp - 1)) + 1)))) op dp) := hD
        have hw_8 : (∀ i, i < (lenSz (wz - ((op (dp - 1)) + 1))) → bt2_8 (((op (dp - 1)) + 1) + i) = lnB (wz - ((op (dp - 1)) + 1)) (lenSz (wz - ((op (dp - 1)) + 1))) i) ∧ (∀ j, j < ((op (dp - 1)) + 1) ∨ ((op (dp - 1)) + 1) + (lenSz (wz - ((op (dp - 1)) + 1))) ≤ j → bt2_8 j = bt2_7 j) ∧ (∀ j, bt2_8 j < 256) := hw_8
        obtain ⟨l1, l2, l3⟩ := hw_8
        refine lv_aload_n hx hb dX2_close_102 rfl (lv_at hl 4 rfl) ?_
        refine lv_dup hx hb dX2_close_103 rfl ?_
        refine va_get (D := (dC, dI)) (ci := 1) (v := .int (nI dp)) (C := RX2) (T := TX2) (N := 4) hx hb hts hinX2 hown hK hP 0 rfl rfl 3 (by decide) hf_22 (fun _ h9 => h9) rfl dX2_close_104 ?_
        refine lv_iconst (v := nI 1) hx hb dX2_close_107 (by decide) ?_
        refine hl_isub hx hb (by omega) dX2_close_108 ?_
        refine va_put (D := (dC, dI)) (ci := 1) (v := .int (nI (dp - 1))) (ty := .int) (C := RX2) (T := TX2) (N := 4) hx hb hts hinX2 tyX2 tyX2_ok nmX2 hown hK hP hD hS 0 rfl rfl 3 (by decide) hf_22 (fun _ h9 => h9) rfl (by decide +kernel) rfl rfl (Nat.le_of_ble_eq_true rfl) dX2_close_109 (fun H locs hP hD hS => ?_)
        have hP : va_P (dC, dI) vwCl (wW cA v0 v1 v2 bt2_8 (wz + (lenSz (wz - ((op (dp - 1)) + 1)))) op (dp - 1)) H := hP
        have hD : va_D A (wW cA v0 v1 v2 bt2_8 (wz + (lenSz (wz - ((op (dp - 1)) + 1)))) op (dp - 1)) := hD
        refine lv_iconst (v := nI 0) hx hb dX2_close_112 (by decide) ?_
        have hP9 : va_P (dC, dI) vwCl (vX2_close cA v0 v1 v2 bt wz op dp (bt2_8, wz + (lenSz (wz - ((op (dp - 1)) + 1))), dp - 1)) _ := hP
        have hD9 : va_D A (vX2_close cA v0 v1 v2 bt wz op dp (bt2_8, wz + (lenSz (wz - ((op (dp - 1)) + 1))), dp - 1)) := hD
        have hq9 : pX2_close v0 v1 v2 bt wz op dp (nI 0) (bt2_8, wz + (lenSz (wz - ((op (dp - 1)) + 1))), dp - 1) := (by have e : enC dp wz bt op = 0 := (by unfold enC; rw [if_neg (by omega), if_neg (fun h => h (by assumption)), if_neg (Nat.not_lt.mpr (by assumption))]); exact ⟨e.symm, Or.inl ⟨e, by omega, by assumption, ⟨fun j hj => (l2 j (Or.inl hj)).trans (g1 j hj), l1, fun j ha hb => (l2 (j + lenSz (wz - (op (dp - 1) + 1))) (Or.inr (by omega))).trans (g2 j ha hb)⟩, rfl, rfl⟩, l3⟩)
        exact W.iret (v := nI 0) hx hb hr (fun t ht hW => ⟨⟨nI 0, (bt2_8, wz + (lenSz (wz - ((op (dp - 1)) + 1))), dp - 1), rfl, hq9, by rw [ht]; exact hP9, va_K.moved hW.alike hK, hD9⟩, hS.F ht⟩) hS.2.2 dX2_close_113
      · refine lv_bipush (v := (-3)) hx hb dX2_close_84 (by decide) ?_
        have hP9 : va_P (dC, dI) vwCl (vX2_close cA v0 v1 v2 bt wz op dp (bt, wz, dp)) _ := hP
        have hD9 : va_D A (vX2_close cA v0 v1 v2 bt wz op dp (bt, wz, dp)) := hD
        have hq9 : pX2_close v0 v1 v2 bt wz op dp ((-3)) (bt, wz, dp) := (by have e : enC dp wz bt op = (-3) := (by unfold enC; rw [if_neg (by omega), if_neg (fun h => h (by assumption)), if_pos (Nat.not_le.mp (by assumption))]); exact ⟨e.symm, Or.inr (Or.inr ⟨by rw [e]; decide, by rw [e]; decide, rfl, rfl, rfl⟩), hbt⟩)
        exact W.iret (v := (-3)) hx hb hr (fun t ht hW => ⟨⟨(-3), (bt, wz, dp), rfl, hq9, by rw [ht]; exact hP9, va_K.moved hW.alike hK, hD9⟩, hS.F ht⟩) hS.2.2 dX2_close_86
    · refine lv_aload_n hx hb dX2_close_51 rfl (lv_at hl 3 rfl) ?_
      refine lv_iload_n hx hb dX2_close_52 rfl (lv_at hl 2 rfl) ?_
      refine va_put (D := (dC, dI)) (ci := 1) (v := .int (nI (op (dp - 1)))) (ty := .int) (C := RX2) (T := TX2) (N := 4) hx hb hts hinX2 tyX2 tyX2_ok nmX2 hown hK hP hD hS 0 rfl rfl 1 (by decide) hf_15 (fun _ h9 => h9) rfl (by decide +kernel) rfl rfl (Nat.le_of_ble_eq_true rfl) dX2_close_53 (fun H locs hP hD hS => ?_)
      have hP : va_P (dC, dI) vwCl (wW cA v0 v1 v2 bt (op (dp - 1)) op dp) H := hP
      have hD : va_D A (wW cA v0 v1 v2 bt (op (dp - 1)) op dp) := hD
      refine lv_aload_n hx hb dX2_close_56 rfl (lv_at hl 3 rfl) ?_
      refine lv_dup hx hb dX2_close_57 rfl ?_
      refine va_get (D := (dC, dI)) (ci := 1) (v := .int (nI dp)) (C := RX2) (T := TX2) (N := 4) hx hb hts hinX2 hown hK hP 0 rfl rfl 3 (by decide) hf_22 (fun _ h9 => h9) rfl dX2_close_58 ?_
      refine lv_iconst (v := nI 1) hx hb dX2_close_61 (by decide) ?_
      refine hl_isub hx hb (by omega) dX2_close_62 ?_
      refine va_put (D := (dC, dI)) (ci := 1) (v := .int (nI (dp - 1))) (ty := .int) (C := RX2) (T := TX2) (N := 4) hx hb hts hinX2 tyX2 tyX2_ok nmX2 hown hK hP hD hS 0 rfl rfl 3 (by decide) hf_22 (fun _ h9 => h9) rfl (by decide +kernel) rfl rfl (Nat.le_of_ble_eq_true rfl) dX2_close_63 (fun H locs hP hD hS => ?_)
      have hP : va_P (dC, dI) vwCl (wW cA v0 v1 v2 bt (op (dp - 1)) op (dp - 1)) H := hP
      have hD : va_D A (wW cA v0 v1 v2 bt (op (dp - 1)) op (dp - 1)) := hD
      refine lv_bipush (v := (-4)) hx hb dX2_close_66 (by decide) ?_
      have hP9 : va_P (dC, dI) vwCl (vX2_close cA v0 v1 v2 bt wz op dp (bt, op (dp - 1), dp - 1)) _ := hP
      have hD9 : va_D A (vX2_close cA v0 v1 v2 bt wz op dp (bt, op (dp - 1), dp - 1)) := hD
      have hq9 : pX2_close v0 v1 v2 bt wz op dp ((-4)) (bt, op (dp - 1), dp - 1) := (by have e : enC dp wz bt op = (-4) := (by unfold enC; rw [if_neg (by omega), if_pos (by assumption)]); exact ⟨e.symm, Or.inr (Or.inl ⟨e, by omega, rfl, rfl, rfl⟩), hbt⟩)
      exact W.iret (v := (-4)) hx hb hr (fun t ht hW => ⟨⟨(-4), (bt, op (dp - 1), dp - 1), rfl, hq9, by rw [ht]; exact hP9, va_K.moved hW.alike hK, hD9⟩, hS.F ht⟩) hS.2.2 dX2_close_68
  · refine lv_bipush (v := (-2)) hx hb dX2_close_7 (by decide) ?_
    have hP9 : va_P (dC, dI) vwCl (vX2_close cA v0 v1 v2 bt wz op dp (bt, wz, dp)) _ := hP
    have hD9 : va_D A (vX2_close cA v0 v1 v2 bt wz op dp (bt, wz, dp)) := hD
    have hq9 : pX2_close v0 v1 v2 bt wz op dp ((-2)) (bt, wz, dp) := (by have e : enC dp wz bt op = (-2) := (by unfold enC; rw [if_pos (by assumption)]); exact ⟨e.symm, Or.inr (Or.inr ⟨by rw [e]; decide, by rw [e]; decide, rfl, rfl, rfl⟩), hbt⟩)
    exact W.iret (v := (-2)) hx hb hr (fun t ht hW => ⟨⟨(-2), (bt, wz, dp), rfl, hq9, by rw [ht]; exact hP9, va_K.moved hW.alike hK, hD9⟩, hS.F ht⟩) hS.2.2 dX2_close_9
