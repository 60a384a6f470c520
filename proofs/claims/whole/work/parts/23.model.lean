abbrev pX4_fail (m0 : Nat) (m1 : Nat) (m2 : Nat) (m3 : Nat) (m4 : Nat) (m5 : Nat) (m6 : Nat) (m7 : Nat) (m8 : Nat) (m9 : Nat) (cd : Int32) (row : Nat → Nat) (sz1 : Nat) (nd : Nat) (tg : Nat → Nat) (st : Nat → Nat) (ln : Nat → Nat) (pa : Nat → Int32) (rd : Nat) (of : Int32) (ar : Nat → Nat) (dp : Nat) (at_ : Nat) (rs : Int32) (fd : Nat) (pl : Int32) (tx : Nat → Nat) (ou : Nat → Nat) (wr : Nat) (op : Nat → Nat) (on : Nat) (dn : Nat) (wa : Int32) (we : Int32) : Int32 × Int32 → Prop := fun (u : Int32 × Int32) => match u with | (rs2, pl2) => rs2 = wa ∧ pl2 = we
abbrev vX4_fail (cA : ClassId) (m0 : Nat) (m1 : Nat) (m2 : Nat) (m3 : Nat) (m4 : Nat) (m5 : Nat) (m6 : Nat) (m7 : Nat) (m8 : Nat) (m9 : Nat) (cd : Int32) (row : Nat → Nat) (sz1 : Nat) (nd : Nat) (tg : Nat → Nat) (st : Nat → Nat) (ln : Nat → Nat) (pa : Nat → Int32) (rd : Nat) (of : Int32) (ar : Nat → Nat) (dp : Nat) (at_ : Nat) (rs : Int32) (fd : Nat) (pl : Int32) (tx : Nat → Nat) (ou : Nat → Nat) (wr : Nat) (op : Nat → Nat) (on : Nat) (dn : Nat) (wa : Int32) (we : Int32) : Int32 × Int32 → va_W := fun (u : Int32 × Int32) => match u with | (rs2, pl2) => wM cA m0 m1 m2 m3 m4 m5 m6 m7 m8 m9 cd row sz1 nd tg st ln pa rd of ar dp at_ rs2 fd pl2 tx ou wr op on dn
abbrev qX4_fail (dC : Nat → ClassId) (dI : Nat → Nat → Nat) (cA : ClassId) (A : Nat → Prop) (m0 : Nat) (m1 : Nat) (m2 : Nat) (m3 : Nat) (m4 : Nat) (m5 : Nat) (m6 : Nat) (m7 : Nat) (m8 : Nat) (m9 : Nat) (cd : Int32) (row : Nat → Nat) (sz1 : Nat) (nd : Nat) (tg : Nat → Nat) (st : Nat → Nat) (ln : Nat → Nat) (pa : Nat → Int32) (rd : Nat) (of : Int32) (ar : Nat → Nat) (dp : Nat) (at_ : Nat) (rs : Int32) (fd : Nat) (pl : Int32) (tx : Nat → Nat) (ou : Nat → Nat) (wr : Nat) (op : Nat → Nat) (on : Nat) (dn : Nat) (wa : Int32) (we : Int32) : Array Value → State → Outcome → State → Prop := va_Qv (pX4_fail m0 m1 m2 m3 m4 m5 m6 m7 m8 m9 cd row sz1 nd tg st ln pa rd of ar dp at_ rs fd pl tx ou wr op on dn wa we) (fun u => cAft dC dI cA A (vX4_fail cA m0 m1 m2 m3 m4 m5 m6 m7 m8 m9 cd row sz1 nd tg st ln pa rd of ar dp at_ rs fd pl tx ou wr op on dn wa we u)) A
set_option maxHeartbeats 4000000 in
set_option maxRecDepth 100000 in
theorem k_X4_fail (l : Launch) (dC : Nat → ClassId) (dI : Nat → Nat → Nat) (cA : ClassId) (m0 : Nat) (m1 : Nat) (m2 : Nat) (m3 : Nat) (m4 : Nat) (m5 : Nat) (m6 : Nat) (m7 : Nat) (m8 : Nat) (m9 : Nat) (cd : Int32) (row : Nat → Nat) (sz1 : Nat) (nd : Nat) (tg : Nat → Nat) (st : Nat → Nat) (ln : Nat → Nat) (pa : Nat → Int32) (rd : Nat) (of : Int32) (ar : Nat → Nat) (dp : Nat) (at_ : Nat) (rs : Int32) (fd : Nat) (pl : Int32) (tx : Nat → Nat) (ou : Nat → Nat) (wr : Nat) (op : Nat → Nat) (on : Nat) (dn : Nat) (wa : Int32) (we : Int32) (sz : Nat)  : Met l yX4_fail wsX4_fail ({ frames := 0, cells := 0, slots := 0, locals := 0 } : Room) (va_Pc [.ref m0, .int wa, .int we] (cPre dC dI cA (wM cA m0 m1 m2 m3 m4 m5 m6 m7 m8 m9 cd row sz1 nd tg st ln pa rd of ar dp at_ rs fd pl tx ou wr op on dn) sz)) (qX4_fail dC dI cA (va_A (wM cA m0 m1 m2 m3 m4 m5 m6 m7 m8 m9 cd row sz1 nd tg st ln pa rd of ar dp at_ rs fd pl tx ou wr op on dn) sz) m0 m1 m2 m3 m4 m5 m6 m7 m8 m9 cd row sz1 nd tg st ln pa rd of ar dp at_ rs fd pl tx ou wr op on dn wa we) 0 0 (va_A (wM cA m0 m1 m2 m3 m4 m5 m6 m7 m8 m9 cd row sz1 nd tg st ln pa rd of ar dp at_ rs fd pl tx ou wr op on dn) sz) := by
  refine Met.ofW (cc := cX4_fail) (maxL := 3) (ret := none) (by decide) rfl ?_
  intro p e s m args below meth c s₁ B hml hv
  obtain ⟨rfl, hsz, hP, hK, hD0⟩ := hv
  have hx := B.exec
  have hb := B.bytes
  have hr := B.returns
  have hts := atoms_spec (ws := wsX4_fail) B.pre
  have hown : s.vm.findClass RX4 = some m.cls := findClass_of_methodNamed B.named
  have hlocks := B.notSynchronized
  subst hsz
  have hD := hD0.self (sz := s.heap.size)
  generalize hAe : va_A (wM cA m0 m1 m2 m3 m4 m5 m6 m7 m8 m9 cd row sz1 nd tg st ln pa rd of ar dp at_ rs fd pl tx ou wr op on dn) s.heap.size = A at hD ⊢
  have hA : ∀ q : Nat, s.heap.size ≤ q → A q := fun q h => by rw [← hAe]; exact Or.inr h
  have hS : va_S A s.heap s.heap [] := va_S.rf
  have hl := lv_entry ([.ref m0, .int wa, .int we]) (n := 3) (Nat.le_of_ble_eq_true rfl)
  rw [lg_entry_eq]
  generalize (lg_sl ([.ref m0, .int wa, .int we]) ++ List.replicate (3 - (lg_sl ([.ref m0, .int wa, .int we])).length) Slot.unset).toArray = ls at hl ⊢
  have hl : lv_has ls 3 [(0, .ref m0), (1, .int wa), (2, .int we)] := hl
  have hinX4 : ∀ w ∈ wsX40, w ∈ wsX4_fail := fun _ h => List.mem_cons_of_mem _ (List.mem_append_right _ h)
  have hf_55 := hts (.fieldLink RX4 55 "DerDeskModel" "result" "I") (by decide +kernel)
  have hf_58 := hts (.fieldLink RX4 58 "DerDeskModel" "place" "I") (by decide +kernel)
  have hP : va_P (dC, dI) vwCl (wM cA m0 m1 m2 m3 m4 m5 m6 m7 m8 m9 cd row sz1 nd tg st ln pa rd of ar dp at_ rs fd pl tx ou wr op on dn) s.heap := hP
  refine lv_aload_n hx hb dX4_fail_0 rfl (lv_at hl 0 rfl) ?_
  refine lv_iload_n hx hb dX4_fail_1 rfl (lv_at hl 1 rfl) ?_
  refine va_put (D := (dC, dI)) (ci := 3) (v := .int wa) (ty := .int) (C := RX4) (T := TX4) (N := 22) hx hb hts hinX4 tyX4 tyX4_ok nmX4 hown hK hP hD hS 0 rfl rfl 13 (by decide) hf_55 (fun _ h9 => h9) rfl (by decide +kernel) rfl rfl (Nat.le_of_ble_eq_true rfl) dX4_fail_2 (fun H locs hP hD hS => ?_)
  have hP : va_P (dC, dI) vwCl (wM cA m0 m1 m2 m3 m4 m5 m6 m7 m8 m9 cd row sz1 nd tg st ln pa rd of ar dp at_ wa fd pl tx ou wr op on dn) H := hP
  have hD : va_D A (wM cA m0 m1 m2 m3 m4 m5 m6 m7 m8 m9 cd row sz1 nd tg st ln pa rd of ar dp at_ wa fd pl tx ou wr op on dn) := hD
  refine lv_aload_n hx hb dX4_fail_5 rfl (lv_at hl 0 rfl) ?_
  refine lv_iload_n hx hb dX4_fail_6 rfl (lv_at hl 2 rfl) ?_
  refine va_put (D := (dC, dI)) (ci := 3) (v := .int we) (ty := .int) (C := RX4) (T := TX4) (N := 22) hx hb hts hinX4 tyX4 tyX4_ok nmX4 hown hK hP hD hS 0 rfl rfl 15 (by decide) hf_58 (fun _ h9 => h9) rfl (by decide +kernel) rfl rfl (Nat.le_of_ble_eq_true rfl) dX4_fail_7 (fun H locs hP hD hS => ?_)
  have hP : va_P (dC, dI) vwCl (wM cA m0 m1 m2 m3 m4 m5 m6 m7 m8 m9 cd row sz1 nd tg st ln pa rd of ar dp at_ wa fd we tx ou wr op on dn) H := hP
  have hD : va_D A (wM cA m0 m1 m2 m3 m4 m5 m6 m7 m8 m9 cd row sz1 nd tg st ln pa rd of ar dp at_ wa fd we tx ou wr op on dn) := hD
  have hP9 : va_P (dC, dI) vwCl (vX4_fail cA m0 m1 m2 m3 m4 m5 m6 m7 m8 m9 cd row sz1 nd tg st ln pa rd of ar dp at_ rs fd pl tx ou wr op on dn wa we (wa, we)) _ := hP
  have hD9 : va_D A (vX4_fail cA m0 m1 m2 m3 m4 m5 m6 m7 m8 m9 cd row sz1 nd tg st ln pa rd of ar dp at_ rs fd pl tx ou wr op on dn wa we (wa, we)) := hD
  have hq9 : pX4_fail m0 m1 m2 m3 m4 m5 m6 m7 m8 m9 cd row sz1 nd tg st ln pa rd of ar dp at_ rs fd pl tx ou wr op on dn wa we (wa, we) := ⟨rfl, rfl⟩
  exact W.vret hx hb hr (fun t ht hW => ⟨⟨(wa, we), rfl, hq9, by rw [ht]; exact hP9, va_K.moved hW.alike hK, hD9⟩, hS.F ht⟩) hS.2.2 dX4_fail_10
abbrev pX4_isRight (m0 : Nat) (m1 : Nat) (m2 : Nat) (m3 : Nat) (m4 : Nat) (m5 : Nat) (m6 : Nat) (m7 : Nat) (m8 : Nat) (m9 : Nat) (cd : Int32) (row : Nat → Nat) (sz1 : Nat) (nd : Nat) (tg : Nat → Nat) (st : Nat → Nat) (ln : Nat → Nat) (pa : Nat → Int32) (rd : Nat) (of : Int32) (ar : Nat → Nat) (dp : Nat) (at_ : Nat) (rs : Int32) (fd : Nat) (pl : Int32) (tx : Nat → Nat) (ou : Nat → Nat) (wr : Nat) (op : Nat → Nat) (on : Nat) (dn : Nat) (tag : Nat) (n : Nat) : Int32 → Unit → Prop := fun (r : Int32) (u : Unit) => r = if okC tag tx 0 n = true then 1 else 0
abbrev vX4_isRight (cA : ClassId) (m0 : Nat) (m1 : Nat) (m2 : Nat) (m3 : Nat) (m4 : Nat) (m5 : Nat) (m6 : Nat) (m7 : Nat) (m8 : Nat) (m9 : Nat) (cd : Int32) (row : Nat → Nat) (sz1 : Nat) (nd : Nat) (tg : Nat → Nat) (st : Nat → Nat) (ln : Nat → Nat) (pa : Nat → Int32) (rd : Nat) (of : Int32) (ar : Nat → Nat) (dp : Nat) (at_ : Nat) (rs : Int32) (fd : Nat) (pl : Int32) (tx : Nat → Nat) (ou : Nat → Nat) (wr : Nat) (op : Nat → Nat) (on : Nat) (dn : Nat) (tag : Nat) (n : Nat) : Unit → va_W := fun (u : Unit) => wM cA m0 m1 m2 m3 m4 m5 m6 m7 m8 m9 cd row sz1 nd tg st ln pa rd of ar dp at_ rs fd pl tx ou wr op on dn
abbrev qX4_isRight (dC : Nat → ClassId) (dI : Nat → Nat → Nat) (cA : ClassId) (A : Nat → Prop) (m0 : Nat) (m1 : Nat) (m2 : Nat) (m3 : Nat) (m4 : Nat) (m5 : Nat) (m6 : Nat) (m7 : Nat) (m8 : Nat) (m9 : Nat) (cd : Int32) (row : Nat → Nat) (sz1 : Nat) (nd : Nat) (tg : Nat → Nat) (st : Nat → Nat) (ln : Nat → Nat) (pa : Nat → Int32) (rd : Nat) (of : Int32) (ar : Nat → Nat) (dp : Nat) (at_ : Nat) (rs : Int32) (fd : Nat) (pl : Int32) (tx : Nat → Nat) (ou : Nat → Nat) (wr : Nat) (op : Nat → Nat) (on : Nat) (dn : Nat) (tag : Nat) (n : Nat) : Array Value → State → Outcome → State → Prop := va_Qi (pX4_isRight m0 m1 m2 m3 m4 m5 m6 m7 m8 m9 cd row sz1 nd tg st ln pa rd of ar dp at_ rs fd pl tx ou wr op on dn tag n) (fun u => cAft dC dI cA A (vX4_isRight cA m0 m1 m2 m3 m4 m5 m6 m7 m8 m9 cd row sz1 nd tg st ln pa rd of ar dp at_ rs fd pl tx ou wr op on dn tag n u)) A
set_option maxHeartbeats 4000000 in
set_option maxRecDepth 100000 in
theorem k_X4_isRight (l : Launch) (dC : Nat → ClassId) (dI : Nat → Nat → Nat) (cA : ClassId) (m0 : Nat) (m1 : Nat) (m2 : Nat) (m3 : Nat) (m4 : Nat) (m5 : Nat) (m6 : Nat) (m7 : Nat) (m8 : Nat) (m9 : Nat) (cd : Int32) (row : Nat → Nat) (sz1 : Nat) (nd : Nat) (tg : Nat → Nat) (st : Nat → Nat) (ln : Nat → Nat) (pa : Nat → Int32) (rd : Nat) (of : Int32) (ar : Nat → Nat) (dp : Nat) (at_ : Nat) (rs : Int32) (fd : Nat) (pl : Int32) (tx : Nat → Nat) (ou : Nat → Nat) (wr : Nat) (op : Nat → Nat) (on : Nat) (dn : Nat) (tag : Nat) (n : Nat) (sz : Nat) (htx : ∀ j, tx j < 256) (htag : tag < 256) (hn : n ≤ 300) : Met l yX4_isRight wsX4_isRight ({ frames := 0, cells := 0, slots := 0, locals := 0 } : Room) (va_Pc [.ref m0, .int (nI tag), .int (nI n)] (cPre dC dI cA (wM cA m0 m1 m2 m3 m4 m5 m6 m7 m8 m9 cd row sz1 nd tg st ln pa rd of ar dp at_ rs fd pl tx ou wr op on dn) sz)) (qX4_isRight dC dI cA (va_A (wM cA m0 m1 m2 m3 m4 m5 m6 m7 m8 m9 cd row sz1 nd tg st ln pa rd of ar dp at_ rs fd pl tx ou wr op on dn) sz) m0 m1 m2 m3 m4 m5 m6 m7 m8 m9 cd row sz1 nd tg st ln pa rd of ar dp at_ rs fd pl tx ou wr op on dn tag n) 0 0 (va_A (wM cA m0 m1 m2 m3 m4 m5 m6 m7 m8 m9 cd row sz1 nd tg st ln pa rd of ar dp at_ rs fd pl tx ou wr op on dn) sz) := by
  refine Met.ofW (cc := cX4_isRight) (maxL := 6) (ret := (some .boolean)) (by decide) rfl ?_
  intro p e s m args below meth c s₁ B hml hv
  obtain ⟨rfl, hsz, hP, hK, hD0⟩ := hv
  have hx := B.exec
  have hb := B.bytes
  have hr := B.returns
  have hts := atoms_spec (ws := wsX4_isRight) B.pre
  have hown : s.vm.findClass RX4 = some m.cls := findClass_of_methodNamed B.named
  have hlocks := B.notSynchronized
  subst hsz
  have hD := hD0.self (sz := s.heap.size)
  generalize hAe : va_A (wM cA m0 m1 m2 m3 m4 m5 m6 m7 m8 m9 cd row sz1 nd tg st ln pa rd of ar dp at_ rs fd pl tx ou wr op on dn) s.heap.size = A at hD ⊢
  have hA : ∀ q : Nat, s.heap.size ≤ q → A q := fun q h => by rw [← hAe]; exact Or.inr h
  have hS : va_S A s.heap s.heap [] := va_S.rf
  have hl := lv_entry ([.ref m0, .int (nI tag), .int (nI n)]) (n := 6) (Nat.le_of_ble_eq_true rfl)
  rw [lg_entry_eq]
  generalize (lg_sl ([.ref m0, .int (nI tag), .int (nI n)]) ++ List.replicate (6 - (lg_sl ([.ref m0, .int (nI tag), .int (nI n)])).length) Slot.unset).toArray = ls at hl ⊢
  have hl : lv_has ls 6 [(0, .ref m0), (1, .int (nI tag)), (2, .int (nI n))] := hl
  have hinX4 : ∀ w ∈ wsX40, w ∈ wsX4_isRight := fun _ h => List.mem_cons_of_mem _ (List.mem_append_right _ h)
  have hf_32 := hts (.fieldLink RX4 32 "DerDeskModel" "text" "[I") (by decide +kernel)
  have hP : va_P (dC, dI) vwCl (wM cA m0 m1 m2 m3 m4 m5 m6 m7 m8 m9 cd row sz1 nd tg st ln pa rd of ar dp at_ rs fd pl tx ou wr op on dn) s.heap := hP
  refine lv_iload_n hx hb dX4_isRight_0 rfl (lv_at hl 1 rfl) ?_
  refine lv_iconst (v := nI 1) hx hb dX4_isRight_1 (by decide) ?_
  refine hl_icmp_ne (tgt := 37) hx hb dX4_isRight_2 (by decide) (by omega) (by omega) (fun c_1 => ?_) (fun c_1 => ?_)
  · refine lv_iload_n hx hb dX4_isRight_37 rfl (lv_at hl 1 rfl) ?_
    refine lv_iconst (v := nI 2) hx hb dX4_isRight_38 (by decide) ?_
    refine hl_icmp_ne (tgt := 111) hx hb dX4_isRight_39 (by decide) (by omega) (by omega) (fun c_2 => ?_) (fun c_2 => ?_)
    · refine lv_iload_n hx hb dX4_isRight_111 rfl (lv_at hl 1 rfl) ?_
      refine lv_iconst (v := nI 3) hx hb dX4_isRight_112 (by decide) ?_
      refine hl_icmp_ne (tgt := 178) hx hb dX4_isRight_113 (by decide) (by omega) (by omega) (fun c_3 => ?_) (fun c_3 => ?_)
      · refine lv_iload_n hx hb dX4_isRight_178 rfl (lv_at hl 1 rfl) ?_
        refine lv_iconst (v := nI 5) hx hb dX4_isRight_179 (by decide) ?_
        refine hl_icmp_ne (tgt := 193) hx hb dX4_isRight_180 (by decide) (by omega) (by omega) (fun c_4 => ?_) (fun c_4 => ?_)
        · refine lv_iload_n hx hb dX4_isRight_193 rfl (lv_at hl 1 rfl) ?_
          refine lv_bipush (v := nI 6) hx hb dX4_isRight_194 (by decide) ?_
          refine hl_icmp_eq (tgt := 201) hx hb dX4_isRight_196 (by decide) (by omega) (by omega) (fun c_5 => ?_) (fun c_5 => ?_)
          · refine lv_iload_n hx hb dX4_isRight_201 rfl (lv_at hl 2 rfl) ?_
            refine hl_if_le (tgt := 209) hx hb dX4_isRight_202 (by decide) (by omega) (fun c_6 => ?_) (fun c_6 => ?_)
            · refine lv_iconst (v := nI 0) hx hb dX4_isRight_209 (by decide) ?_
              refine lv_istore_n (lv' := [(3, .int (nI 0)), (0, .ref m0), (1, .int (nI tag)), (2, .int (nI n))]) hx hb dX4_isRight_210 rfl hl (by decide) rfl (fun ls hl => ?_)
              refine lv_iconst (v := nI 0) hx hb dX4_isRight_211 (by decide) ?_
              refine lv_istore (lv' := [(4, .int (nI 0)), (3, .int (nI 0)), (0, .ref m0), (1, .int (nI tag)), (2, .int (nI n))]) hx hb dX4_isRight_212 hl (by decide) rfl (fun ls hl => ?_)
              have lp_214 : ∀ (nf : Nat) (k : Nat) (rt : Nat), n - k < nf → (k ≤ n) → (rt = if obR tx n k = true then 1 else 0) → ∀ (H : Heap) (locs : List Loc) (ls : Array Slot), va_P (dC, dI) vwCl (wM cA m0 m1 m2 m3 m4 m5 m6 m7 m8 m9 cd row sz1 nd tg st ln pa rd of ar dp at_ rs fd pl tx ou wr op on dn) H → va_D A (wM cA m0 m1 m2 m3 m4 m5 m6 m7 m8 m9 cd row sz1 nd tg st ln pa rd of ar dp at_ rs fd pl tx ou wr op on dn) → va_S A s.heap H locs → lv_has ls 6 [(4, .int (nI k)), (3, .int (nI rt)), (0, .ref m0), (1, .int (nI tag)), (2, .int (nI n))] → W p l e (headSpec wsX4_isRight ({ frames := 0, cells := 0, slots := 0, locals := 0 } : Room)).room s m ([.ref m0, .int (nI tag), .int (nI n)] : List Value).toArray below meth c H locs 0 0 (MQ below (qX4_isRight dC dI cA A m0 m1 m2 m3 m4 m5 m6 m7 m8 m9 cd row sz1 nd tg st ln pa rd of ar dp at_ rs fd pl tx ou wr op on dn tag n) ([.ref m0, .int (nI tag), .int (nI n)] : List Value).toArray s 0 0 A) (F0 m 214 ls []) := by
                intro nf
                induction nf with
                | zero =>
                  intro k rt hm
                  exact absurd hm (Nat.not_lt_zero _)
                | succ nf ih_214 =>
                  intro k rt hm hk hrt H locs ls hP hD hS hl
                  have hrt1 : rt < 2 := by rw [hrt]; split <;> omega
                  refine lv_iload hx hb dX4_isRight_214 (lv_at hl 0 rfl) ?_
                  refine lv_iload_n hx hb dX4_isRight_216 rfl (lv_at hl 4 rfl) ?_
                  refine hl_icmp_ge (tgt := 302) hx hb dX4_isRight_217 (by decide) (by omega) (by omega) (fun c_8 => ?_) (fun c_8 => ?_)
                  · refine lv_iload_n hx hb dX4_isRight_302 rfl (lv_at hl 1 rfl) ?_
                    have hend : nI rt = if okC tag tx 0 n = true then 1 else 0 := by rw [show okC tag tx 0 n = okObj tx 0 n by unfold okC; rw [if_neg (by omega), if_neg (by omega), if_neg (by omega), if_neg (by omega), if_pos (by assumption)], hrt, show k = n by omega, obR_end]; split <;> rfl
                    refine hl_top hend ?_
                    have hP9 : va_P (dC, dI) vwCl (vX4_isRight cA m0 m1 m2 m3 m4 m5 m6 m7 m8 m9 cd row sz1 nd tg st ln pa rd of ar dp at_ rs fd pl tx ou wr op on dn tag n ()) _ := hP
                    have hD9 : va_D A (vX4_isRight cA m0 m1 m2 m3 m4 m5 m6 m7 m8 m9 cd row sz1 nd tg st ln pa rd of ar dp at_ rs fd pl tx ou wr op on dn tag n ()) := hD
                    have hq9 : pX4_isRight m0 m1 m2 m3 m4 m5 m6 m7 m8 m9 cd row sz1 nd tg st ln pa rd of ar dp at_ rs fd pl tx ou wr op on dn tag n ((if okC tag tx 0 n = true then 1 else 0)) () := rfl
                    exact W.zret (v := (if okC tag tx 0 n = true then 1 else 0)) hx hb hr (z_narrow _) (fun t ht hW => ⟨⟨(if okC tag tx 0 n = true then 1 else 0), (), rfl, hq9, by rw [ht]; exact hP9, va_K.moved hW.alike hK, hD9⟩, hS.F ht⟩) hS.2.2 dX4_isRight_303
                  · refine lv_iload hx hb dX4_isRight_220 (lv_at hl 0 rfl) ?_
                    refine hl_if_eq (tgt := 240) hx hb dX4_isRight_222 (by decide) (by omega) (fun c_9 => ?_) (fun c_9 => ?_)
                    · refine lv_iconst (v := nI 1) hx hb dX4_isRight_240 (by decide) ?_
                      refine lv_goto (tgt := 245) hx hb dX4_isRight_241 (by decide) ?_
                      refine lv_istore (lv' := [(5, .int (nI 1)), (4, .int (nI k)), (3, .int (nI rt)), (0, .ref m0), (1, .int (nI tag)), (2, .int (nI n))]) hx hb dX4_isRight_245 hl (by decide) rfl (fun ls hl => ?_)
                      refine lv_iload_n hx hb dX4_isRight_247 rfl (lv_at hl 2 rfl) ?_
                      refine hl_if_eq (tgt := 294) hx hb dX4_isRight_248 (by decide) (by omega) (fun c_10 => ?_) (fun c_10 => ?_)
                      · refine lv_iconst (v := nI 0) hx hb dX4_isRight_294 (by decide) ?_
                        refine lv_istore_n (lv' := [(3, .int (nI 0)), (5, .int (nI 1)), (4, .int (nI k)), (0, .ref m0), (1, .int (nI tag)), (2, .int (nI n))]) hx hb dX4_isRight_295 rfl hl (by decide) rfl (fun ls hl => ?_)
                        refine lv_iinc (v := (nI (k + 1))) (lv' := [(4, .int (nI (k + 1))), (3, .int (nI 0)), (5, .int (nI 1)), (0, .ref m0), (1, .int (nI tag)), (2, .int (nI n))]) hx hb dX4_isRight_296 hl (k := 2) rfl (nI_inc k 1) (by decide) rfl (fun ls hl => ?_)
                        refine lv_goto (tgt := 214) hx hb dX4_isRight_299 (by decide) ?_
                        exact ih_214 (k + 1) 0 (by omega) (by omega) (obR_next (by omega) hrt (by omega)) _ _ _ hP hD hS (lv_sub hl [0, 1, 3, 4, 5] rfl)
                      · refine lv_iload hx hb dX4_isRight_251 (lv_at hl 0 rfl) ?_
                        refine hl_if_eq (tgt := 269) hx hb dX4_isRight_253 (by decide) (by omega) (fun c_11 => absurd c_11 (by decide)) (fun c_11 => ?_)
                        refine lv_aload_n hx hb dX4_isRight_256 rfl (lv_at hl 3 rfl) ?_
                        refine va_get (D := (dC, dI)) (ci := 3) (v := .ref m7) (C := RX4) (T := TX4) (N := 22) hx hb hts hinX4 hown hK hP 0 rfl rfl 16 (by decide) hf_32 (fun _ h9 => h9) rfl dX4_isRight_257 ?_
                        refine lv_iload hx hb dX4_isRight_260 (lv_at hl 1 rfl) ?_
                        refine hl_iald hx hb hK hP 7 0 rfl rfl (by omega) (by decide) dX4_isRight_262 ?_
                        have hv_12 := htx k
                        refine lv_sipush (v := nI 128) hx hb dX4_isRight_263 (by decide) ?_
                        refine hl_icmp_eq (tgt := 294) hx hb dX4_isRight_266 (by decide) (by omega) (by omega) (fun c_13 => ?_) (fun c_13 => ?_)
                        · refine lv_iconst (v := nI 0) hx hb dX4_isRight_294 (by decide) ?_
                          refine lv_istore_n (lv' := [(3, .int (nI 0)), (5, .int (nI 1)), (4, .int (nI k)), (0, .ref m0), (1, .int (nI tag)), (2, .int (nI n))]) hx hb dX4_isRight_295 rfl hl (by decide) rfl (fun ls hl => ?_)
                          refine lv_iinc (v := (nI (k + 1))) (lv' := [(4, .int (nI (k + 1))), (3, .int (nI 0)), (5, .int (nI 1)), (0, .ref m0), (1, .int (nI tag)), (2, .int (nI n))]) hx hb dX4_isRight_296 hl (k := 2) rfl (nI_inc k 1) (by decide) rfl (fun ls hl => ?_)
                          refine lv_goto (tgt := 214) hx hb dX4_isRight_299 (by decide) ?_
                          exact ih_214 (k + 1) 0 (by omega) (by omega) (obR_next (by omega) hrt (by omega)) _ _ _ hP hD hS (lv_sub hl [0, 1, 3, 4, 5] rfl)
                        · refine lv_iload hx hb dX4_isRight_269 (lv_at hl 1 rfl) ?_
                          refine lv_iload_n hx hb dX4_isRight_271 rfl (lv_at hl 5 rfl) ?_
                          refine lv_iconst (v := nI 1) hx hb dX4_isRight_272 (by decide) ?_
                          refine hl_isub hx hb (by omega) dX4_isRight_273 ?_
                          refine hl_icmp_lt (tgt := 290) hx hb dX4_isRight_274 (by decide) (by omega) (by omega) (fun c_14 => ?_) (fun c_14 => ?_)
                          · refine lv_iconst (v := nI 1) hx hb dX4_isRight_290 (by decide) ?_
                            refine lv_goto (tgt := 295) hx hb dX4_isRight_291 (by decide) ?_
                            refine lv_istore_n (lv' := [(3, .int (nI 1)), (5, .int (nI 1)), (4, .int (nI k)), (0, .ref m0), (1, .int (nI tag)), (2, .int (nI n))]) hx hb dX4_isRight_295 rfl hl (by decide) rfl (fun ls hl => ?_)
                            refine lv_iinc (v := (nI (k + 1))) (lv' := [(4, .int (nI (k + 1))), (3, .int (nI 1)), (5, .int (nI 1)), (0, .ref m0), (1, .int (nI tag)), (2, .int (nI n))]) hx hb dX4_isRight_296 hl (k := 2) rfl (nI_inc k 1) (by decide) rfl (fun ls hl => ?_)
                            refine lv_goto (tgt := 214) hx hb dX4_isRight_299 (by decide) ?_
                            exact ih_214 (k + 1) 1 (by omega) (by omega) (obR_next (by omega) hrt (by omega)) _ _ _ hP hD hS (lv_sub hl [0, 1, 3, 4, 5] rfl)
                          · refine lv_aload_n hx hb dX4_isRight_277 rfl (lv_at hl 3 rfl) ?_
                            refine va_get (D := (dC, dI)) (ci := 3) (v := .ref m7) (C := RX4) (T := TX4) (N := 22) hx hb hts hinX4 hown hK hP 0 rfl rfl 16 (by decide) hf_32 (fun _ h9 => h9) rfl dX4_isRight_278 ?_
                            refine lv_iload hx hb dX4_isRight_281 (lv_at hl 1 rfl) ?_
                            refine hl_iald hx hb hK hP 7 0 rfl rfl (by omega) (by decide) dX4_isRight_283 ?_
                            have hv_15 := htx k
                            refine lv_sipush (v := nI 128) hx hb dX4_isRight_284 (by decide) ?_
                            refine hl_icmp_ge (tgt := 294) hx hb dX4_isRight_287 (by decide) (by omega) (by omega) (fun c_16 => ?_) (fun c_16 => ?_)
                            · refine lv_iconst (v := nI 0) hx hb dX4_isRight_294 (by decide) ?_
                              refine lv_istore_n (lv' := [(3, .int (nI 0)), (5, .int (nI 1)), (4, .int (nI k)), (0, .ref m0), (1, .int (nI tag)), (2, .int (nI n))]) hx hb dX4_isRight_295 rfl hl (by decide) rfl (fun ls hl => ?_)
                              refine lv_iinc (v := (nI (k + 1))) (lv' := [(4, .int (nI (k + 1))), (3, .int (nI 0)), (5, .int (nI 1)), (0, .ref m0), (1, .int (nI tag)), (2, .int (nI n))]) hx hb dX4_isRight_296 hl (k := 2) rfl (nI_inc k 1) (by decide) rfl (fun ls hl => ?_)
                              refine lv_goto (tgt := 214) hx hb dX4_isRight_299 (by decide) ?_
                              exact ih_214 (k + 1) 0 (by omega) (by omega) (obR_next (by omega) hrt (by omega)) _ _ _ hP hD hS (lv_sub hl [0, 1, 3, 4, 5] rfl)
                            · refine lv_iconst (v := nI 1) hx hb dX4_isRight_290 (by decide) ?_
                              refine lv_goto (tgt := 295) hx hb dX4_isRight_291 (by decide) ?_
                              refine lv_istore_n (lv' := [(3, .int (nI 1)), (5, .int (nI 1)), (4, .int (nI k)), (0, .ref m0), (1, .int (nI tag)), (2, .int (nI n))]) hx hb dX4_isRight_295 rfl hl (by decide) rfl (fun ls hl => ?_)
                              refine lv_iinc (v := (nI (k + 1))) (lv' := [(4, .int (nI (k + 1))), (3, .int (nI 1)), (5, .int (nI 1)), (0, .ref m0), (1, .int (nI tag)), (2, .int (nI n))]) hx hb dX4_isRight_296 hl (k := 2) rfl (nI_inc k 1) (by decide) rfl (fun ls hl => ?_)
                              refine lv_goto (tgt := 214) hx hb dX4_isRight_299 (by decide) ?_
                              exact ih_214 (k + 1) 1 (by omega) (by omega) (obR_next (by omega) hrt (by omega)) _ _ _ hP hD hS (lv_sub hl [0, 1, 3, 4, 5] rfl)
                    · refine lv_aload_n hx hb dX4_isRight_225 rfl (lv_at hl 2 rfl) ?_
                      refine va_get (D := (dC, dI)) (ci := 3) (v := .ref m7) (C := RX4) (T := TX4) (N := 22) hx hb hts hinX4 hown hK hP 0 rfl rfl 16 (by decide) hf_32 (fun _ h9 => h9) rfl dX4_isRight_226 ?_
                      refine lv_iload hx hb dX4_isRight_229 (lv_at hl 0 rfl) ?_
                      refine lv_iconst (v := nI 1) hx hb dX4_isRight_231 (by decide) ?_
                      refine hl_isub hx hb (by omega) dX4_isRight_232 ?_
                      refine hl_iald hx hb hK hP 7 0 rfl rfl (by omega) (by decide) dX4_isRight_233 ?_
                      have hv_17 := htx (k - 1)
                      refine lv_sipush (v := nI 128) hx hb dX4_isRight_234 (by decide) ?_
                      refine hl_icmp_ge (tgt := 244) hx hb dX4_isRight_237 (by decide) (by omega) (by omega) (fun c_18 => ?_) (fun c_18 => ?_)
                      · refine lv_iconst (v := nI 0) hx hb dX4_isRight_244 (by decide) ?_
                        refine lv_istore (lv' := [(5, .int (nI 0)), (4, .int (nI k)), (3, .int (nI rt)), (0, .ref m0), (1, .int (nI tag)), (2, .int (nI n))]) hx hb dX4_isRight_245 hl (by decide) rfl (fun ls hl => ?_)
                        refine lv_iload_n hx hb dX4_isRight_247 rfl (lv_at hl 2 rfl) ?_
                        refine hl_if_eq (tgt := 294) hx hb dX4_isRight_248 (by decide) (by omega) (fun c_19 => ?_) (fun c_19 => ?_)
                        · refine lv_iconst (v := nI 0) hx hb dX4_isRight_294 (by decide) ?_
                          refine lv_istore_n (lv' := [(3, .int (nI 0)), (5, .int (nI 0)), (4, .int (nI k)), (0, .ref m0), (1, .int (nI tag)), (2, .int (nI n))]) hx hb dX4_isRight_295 rfl hl (by decide) rfl (fun ls hl => ?_)
                          refine lv_iinc (v := (nI (k + 1))) (lv' := [(4, .int (nI (k + 1))), (3, .int (nI 0)), (5, .int (nI 0)), (0, .ref m0), (1, .int (nI tag)), (2, .int (nI n))]) hx hb dX4_isRight_296 hl (k := 2) rfl (nI_inc k 1) (by decide) rfl (fun ls hl => ?_)
                          refine lv_goto (tgt := 214) hx hb dX4_isRight_299 (by decide) ?_
                          exact ih_214 (k + 1) 0 (by omega) (by omega) (obR_next (by omega) hrt (by omega)) _ _ _ hP hD hS (lv_sub hl [0, 1, 3, 4, 5] rfl)
                        · refine lv_iload hx hb dX4_isRight_251 (lv_at hl 0 rfl) ?_
                          refine hl_if_eq (tgt := 269) hx hb dX4_isRight_253 (by decide) (by omega) (fun c_20 => ?_) (fun c_20 => absurd c_20 (by decide))
                          refine lv_iload hx hb dX4_isRight_269 (lv_at hl 1 rfl) ?_
                          refine lv_iload_n hx hb dX4_isRight_271 rfl (lv_at hl 5 rfl) ?_
                          refine lv_iconst (v := nI 1) hx hb dX4_isRight_272 (by decide) ?_
                          refine hl_isub hx hb (by omega) dX4_isRight_273 ?_
                          refine hl_icmp_lt (tgt := 290) hx hb dX4_isRight_274 (by decide) (by omega) (by omega) (fun c_21 => ?_) (fun c_21 => ?_)
                          · refine lv_iconst (v := nI 1) hx hb dX4_isRight_290 (by decide) ?_
                            refine lv_goto (tgt := 295) hx hb dX4_isRight_291 (by decide) ?_
                            refine lv_istore_n (lv' := [(3, .int (nI 1)), (5, .int (nI 0)), (4, .int (nI k)), (0, .ref m0), (1, .int (nI tag)), (2, .int (nI n))]) hx hb dX4_isRight_295 rfl hl (by decide) rfl (fun ls hl => ?_)
                            refine lv_iinc (v := (nI (k + 1))) (lv' := [(4, .int (nI (k + 1))), (3, .int (nI 1)), (5, .int (nI 0)), (0, .ref m0), (1, .int (nI tag)), (2, .int (nI n))]) hx hb dX4_isRight_296 hl (k := 2) rfl (nI_inc k 1) (by decide) rfl (fun ls hl => ?_)
                            refine lv_goto (tgt := 214) hx hb dX4_isRight_299 (by decide) ?_
                            exact ih_214 (k + 1) 1 (by omega) (by omega) (obR_next (by omega) hrt (by omega)) _ _ _ hP hD hS (lv_sub hl [0, 1, 3, 4, 5] rfl)
                          · refine lv_aload_n hx hb dX4_isRight_277 rfl (lv_at hl 3 rfl) ?_
                            refine va_get (D := (dC, dI)) (ci := 3) (v := .ref m7) (C := RX4) (T := TX4) (N := 22) hx hb hts hinX4 hown hK hP 0 rfl rfl 16 (by decide) hf_32 (fun _ h9 => h9) rfl dX4_isRight_278 ?_
                            refine lv_iload hx hb dX4_isRight_281 (lv_at hl 1 rfl) ?_
                            refine hl_iald hx hb hK hP 7 0 rfl rfl (by omega) (by decide) dX4_isRight_283 ?_
                            have hv_22 := htx k
                            refine lv_sipush (v := nI 128) hx hb dX4_isRight_284 (by decide) ?_
                            refine hl_icmp_ge (tgt := 294) hx hb dX4_isRight_287 (by decide) (by omega) (by omega) (fun c_23 => ?_) (fun c_23 => ?_)
                            · refine lv_iconst (v := nI 0) hx hb dX4_isRight_294 (by decide) ?_
                              refine lv_istore_n (lv' := [(3, .int (nI 0)), (5, .int (nI 0)), (4, .int (nI k)), (0, .ref m0), (1, .int (nI tag)), (2, .int (nI n))]) hx hb dX4_isRight_295 rfl hl (by decide) rfl (fun ls hl => ?_)
                              refine lv_iinc (v := (nI (k + 1))) (lv' := [(4, .int (nI (k + 1))), (3, .int (nI 0)), (5, .int (nI 0)), (0, .ref m0), (1, .int (nI tag)), (2, .int (nI n))]) hx hb dX4_isRight_296 hl (k := 2) rfl (nI_inc k 1) (by decide) rfl (fun ls hl => ?_)
                              refine lv_goto (tgt := 214) hx hb dX4_isRight_299 (by decide) ?_
                              exact ih_214 (k + 1) 0 (by omega) (by omega) (obR_next (by omega) hrt (by omega)) _ _ _ hP hD hS (lv_sub hl [0, 1, 3, 4, 5] rfl)
                            · refine lv_iconst (v := nI 1) hx hb dX4_isRight_290 (by decide) ?_
                              refine lv_goto (tgt := 295) hx hb dX4_isRight_291 (by decide) ?_
                              refine lv_istore_n (lv' := [(3, .int (nI 1)), (5, .int (nI 0)), (4, .int (nI k)), (0, .ref m0), (1, .int (nI tag)), (2, .int (nI n))]) hx hb dX4_isRight_295 rfl hl (by decide) rfl (fun ls hl => ?_)
                              refine lv_iinc (v := (nI (k + 1))) (lv' := [(4, .int (nI (k + 1))), (3, .int (nI 1)), (5, .int (nI 0)), (0, .ref m0), (1, .int (nI tag)), (2, .int (nI n))]) hx hb dX4_isRight_296 hl (k := 2) rfl (nI_inc k 1) (by decide) rfl (fun ls hl => ?_)
                              refine lv_goto (tgt := 214) hx hb dX4_isRight_299 (by decide) ?_
                              exact ih_214 (k + 1) 1 (by omega) (by omega) (obR_next (by omega) hrt (by omega)) _ _ _ hP hD hS (lv_sub hl [0, 1, 3, 4, 5] rfl)
                      · refine lv_iconst (v := nI 1) hx hb dX4_isRight_240 (by decide) ?_
                        refine lv_goto (tgt := 245) hx hb dX4_isRight_241 (by decide) ?_
                        refine lv_istore (lv' := [(5, .int (nI 1)), (4, .int (nI k)), (3, .int (nI rt)), (0, .ref m0), (1, .int (nI tag)), (2, .int (nI n))]) hx hb dX4_isRight_245 hl (by decide) rfl (fun ls hl => ?_)
                        refine lv_iload_n hx hb dX4_isRight_247 rfl (lv_at hl 2 rfl) ?_
                        refine hl_if_eq (tgt := 294) hx hb dX4_isRight_248 (by decide) (by omega) (fun c_24 => ?_) (fun c_24 => ?_)
                        · refine lv_iconst (v := nI 0) hx hb dX4_isRight_294 (by decide) ?_
                          refine lv_istore_n (lv' := [(3, .int (nI 0)), (5, .int (nI 1)), (4, .int (nI k)), (0, .ref m0), (1, .int (nI tag)), (2, .int (nI n))]) hx hb dX4_isRight_295 rfl hl (by decide) rfl (fun ls hl => ?_)
                          refine lv_iinc (v := (nI (k + 1))) (lv' := [(4, .int (nI (k + 1))), (3, .int (nI 0)), (5, .int (nI 1)), (0, .ref m0), (1, .int (nI tag)), (2, .int (nI n))]) hx hb dX4_isRight_296 hl (k := 2) rfl (nI_inc k 1) (by decide) rfl (fun ls hl => ?_)
                          refine lv_goto (tgt := 214) hx hb dX4_isRight_299 (by decide) ?_
                          exact ih_214 (k + 1) 0 (by omega) (by omega) (obR_next (by omega) hrt (by omega)) _ _ _ hP hD hS (lv_sub hl [0, 1, 3, 4, 5] rfl)
                        · refine lv_iload hx hb dX4_isRight_251 (lv_at hl 0 rfl) ?_
                          refine hl_if_eq (tgt := 269) hx hb dX4_isRight_253 (by decide) (by omega) (fun c_25 => absurd c_25 (by decide)) (fun c_25 => ?_)
                          refine lv_aload_n hx hb dX4_isRight_256 rfl (lv_at hl 3 rfl) ?_
                          refine va_get (D := (dC, dI)) (ci := 3) (v := .ref m7) (C := RX4) (T := TX4) (N := 22) hx hb hts hinX4 hown hK hP 0 rfl rfl 16 (by decide) hf_32 (fun _ h9 => h9) rfl dX4_isRight_257 ?_
                          refine lv_iload hx hb dX4_isRight_260 (lv_at hl 1 rfl) ?_
                          refine hl_iald hx hb hK hP 7 0 rfl rfl (by omega) (by decide) dX4_isRight_262 ?_
                          have hv_26 := htx k
                          refine lv_sipush (v := nI 128) hx hb dX4_isRight_263 (by decide) ?_
                          refine hl_icmp_eq (tgt := 294) hx hb dX4_isRight_266 (by decide) (by omega) (by omega) (fun c_27 => ?_) (fun c_27 => ?_)
                          · refine lv_iconst (v := nI 0) hx hb dX4_isRight_294 (by decide) ?_
                            refine lv_istore_n (lv' := [(3, .int (nI 0)), (5, .int (nI 1)), (4, .int (nI k)), (0, .ref m0), (1, .int (nI tag)), (2, .int (nI n))]) hx hb dX4_isRight_295 rfl hl (by decide) rfl (fun ls hl => ?_)
                            refine lv_iinc (v := (nI (k + 1))) (lv' := [(4, .int (nI (k + 1))), (3, .int (nI 0)), (5, .int (nI 1)), (0, .ref m0), (1, .int (nI tag)), (2, .int (nI n))]) hx hb dX4_isRight_296 hl (k := 2) rfl (nI_inc k 1) (by decide) rfl (fun ls hl => ?_)
                            refine lv_goto (tgt := 214) hx hb dX4_isRight_299 (by decide) ?_
                            exact ih_214 (k + 1) 0 (by omega) (by omega) (obR_next (by omega) hrt (by omega)) _ _ _ hP hD hS (lv_sub hl [0, 1, 3, 4, 5] rfl)
                          · refine lv_iload hx hb dX4_isRight_269 (lv_at hl 1 rfl) ?_
                            refine lv_iload_n hx hb dX4_isRight_271 rfl (lv_at hl 5 rfl) ?_
                            refine lv_iconst (v := nI 1) hx hb dX4_isRight_272 (by decide) ?_
                            refine hl_isub hx hb (by omega) dX4_isRight_273 ?_
                            refine hl_icmp_lt (tgt := 290) hx hb dX4_isRight_274 (by decide) (by omega) (by omega) (fun c_28 => ?_) (fun c_28 => ?_)
                            · refine lv_iconst (v := nI 1) hx hb dX4_isRight_290 (by decide) ?_
                              refine lv_goto (tgt := 295) hx hb dX4_isRight_291 (by decide) ?_
                              refine lv_istore_n (lv' := [(3, .int (nI 1)), (5, .int (nI 1)), (4, .int (nI k)), (0, .ref m0), (1, .int (nI tag)), (2, .int (nI n))]) hx hb dX4_isRight_295 rfl hl (by decide) rfl (fun ls hl => ?_)
                              refine lv_iinc (v := (nI (k + 1))) (lv' := [(4, .int (nI (k + 1))), (3, .int (nI 1)), (5, .int (nI 1)), (0, .ref m0), (1, .int (nI tag)), (2, .int (nI n))]) hx hb dX4_isRight_296 hl (k := 2) rfl (nI_inc k 1) (by decide) rfl (fun ls hl => ?_)
                              refine lv_goto (tgt := 214) hx hb dX4_isRight_299 (by decide) ?_
                              exact ih_214 (k + 1) 1 (by omega) (by omega) (obR_next (by omega) hrt (by omega)) _ _ _ hP hD hS (lv_sub hl [0, 1, 3, 4, 5] rfl)
                            · refine lv_aload_n hx hb dX4_isRight_277 rfl (lv_at hl 3 rfl) ?_
                              refine va_get (D := (dC, dI)) (ci := 3) (v := .ref m7) (C := RX4) (T := TX4) (N := 22) hx hb hts hinX4 hown hK hP 0 rfl rfl 16 (by decide) hf_32 (fun _ h9 => h9) rfl dX4_isRight_278 ?_
                              refine lv_iload hx hb dX4_isRight_281 (lv_at hl 1 rfl) ?_
                              refine hl_iald hx hb hK hP 7 0 rfl rfl (by omega) (by decide) dX4_isRight_283 ?_
                              have hv_29 := htx k
                              refine lv_sipush (v := nI 128) hx hb dX4_isRight_284 (by decide) ?_
                              refine hl_icmp_ge (tgt := 294) hx hb dX4_isRight_287 (by decide) (by omega) (by omega) (fun c_30 => ?_) (fun c_30 => ?_)
                              · refine lv_iconst (v := nI 0) hx hb dX4_isRight_294 (by decide) ?_
                                refine lv_istore_n (lv' := [(3, .int (nI 0)), (5, .int (nI 1)), (4, .int (nI k)), (0, .ref m0), (1, .int (nI tag)), (2, .int (nI n))]) hx hb dX4_isRight_295 rfl hl (by decide) rfl (fun ls hl => ?_)
                                refine lv_iinc (v := (nI (k + 1))) (lv' := [(4, .int (nI (k + 1))), (3, .int (nI 0)), (5, .int (nI 1)), (0, .ref m0), (1, .int (nI tag)), (2, .int (nI n))]) hx hb dX4_isRight_296 hl (k := 2) rfl (nI_inc k 1) (by decide) rfl (fun ls hl => ?_)
                                refine lv_goto (tgt := 214) hx hb dX4_isRight_299 (by decide) ?_
                                exact ih_214 (k + 1) 0 (by omega) (by omega) (obR_next (by omega) hrt (by omega)) _ _ _ hP hD hS (lv_sub hl [0, 1, 3, 4, 5] rfl)
                              · refine lv_iconst (v := nI 1) hx hb dX4_isRight_290 (by decide) ?_
                                refine lv_goto (tgt := 295) hx hb dX4_isRight_291 (by decide) ?_
                                refine lv_istore_n (lv' := [(3, .int (nI 1)), (5, .int (nI 1)), (4, .int (nI k)), (0, .ref m0), (1, .int (nI tag)), (2, .int (nI n))]) hx hb dX4_isRight_295 rfl hl (by decide) rfl (fun ls hl => ?_)
                                refine lv_iinc (v := (nI (k + 1))) (lv' := [(4, .int (nI (k + 1))), (3, .int (nI 1)), (5, .int (nI 1)), (0, .ref m0), (1, .int (nI tag)), (2, .int (nI n))]) hx hb dX4_isRight_296 hl (k := 2) rfl (nI_inc k 1) (by decide) rfl (fun ls hl => ?_)
                                refine lv_goto (tgt := 214) hx hb dX4_isRight_299 (by decide) ?_
                                exact ih_214 (k + 1) 1 (by omega) (by omega) (obR_next (by omega) hrt (by omega)) _ _ _ hP hD hS (lv_sub hl [0, 1, 3, 4, 5] rfl)
              exact lp_214 (n - 0 + 1) 0 0 (Nat.lt_succ_self _) (by omega) (by unfold obR; show _ = if (_ && true && _) = true then 1 else 0; simp only [Bool.and_true, Bool.and_eq_true, Bool.or_eq_true, decide_eq_true_eq]; split <;> omega) _ _ _ hP hD hS (lv_sub hl [0, 1, 2, 3, 4] rfl)
            · refine lv_iconst (v := nI 1) hx hb dX4_isRight_205 (by decide) ?_
              refine lv_goto (tgt := 210) hx hb dX4_isRight_206 (by decide) ?_
              refine lv_istore_n (lv' := [(3, .int (nI 1)), (0, .ref m0), (1, .int (nI tag)), (2, .int (nI n))]) hx hb dX4_isRight_210 rfl hl (by decide) rfl (fun ls hl => ?_)
              refine lv_iconst (v := nI 0) hx hb dX4_isRight_211 (by decide) ?_
              refine lv_istore (lv' := [(4, .int (nI 0)), (3, .int (nI 1)), (0, .ref m0), (1, .int (nI tag)), (2, .int (nI n))]) hx hb dX4_isRight_212 hl (by decide) rfl (fun ls hl => ?_)
              have lp_214 : ∀ (nf : Nat) (k : Nat) (rt : Nat), n - k < nf → (k ≤ n) → (rt = if obR tx n k = true then 1 else 0) → ∀ (H : Heap) (locs : List Loc) (ls : Array Slot), va_P (dC, dI) vwCl (wM cA m0 m1 m2 m3 m4 m5 m6 m7 m8 m9 cd row sz1 nd tg st ln pa rd of ar dp at_ rs fd pl tx ou wr op on dn) H → va_D A (wM cA m0 m1 m2 m3 m4 m5 m6 m7 m8 m9 cd row sz1 nd tg st ln pa rd of ar dp at_ rs fd pl tx ou wr op on dn) → va_S A s.heap H locs → lv_has ls 6 [(4, .int (nI k)), (3, .int (nI rt)), (0, .ref m0), (1, .int (nI tag)), (2, .int (nI n))] → W p l e (headSpec wsX4_isRight ({ frames := 0, cells := 0, slots := 0, locals := 0 } : Room)).room s m ([.ref m0, .int (nI tag), .int (nI n)] : List Value).toArray below meth c H locs 0 0 (MQ below (qX4_isRight dC dI cA A m0 m1 m2 m3 m4 m5 m6 m7 m8 m9 cd row sz1 nd tg st ln pa rd of ar dp at_ rs fd pl tx ou wr op on dn tag n) ([.ref m0, .int (nI tag), .int (nI n)] : List Value).toArray s 0 0 A) (F0 m 214 ls []) := by
                intro nf
                induction nf with
                | zero =>
                  intro k rt hm
                  exact absurd hm (Nat.not_lt_zero _)
                | succ nf ih_214 =>
                  intro k rt hm hk hrt H locs ls hP hD hS hl
                  have hrt1 : rt < 2 := by rw [hrt]; split <;> omega
                  refine lv_iload hx hb dX4_isRight_214 (lv_at hl 0 rfl) ?_
                  refine lv_iload_n hx hb dX4_isRight_216 rfl (lv_at hl 4 rfl) ?_
                  refine hl_icmp_ge (tgt := 302) hx hb dX4_isRight_217 (by decide) (by omega) (by omega) (fun c_32 => ?_) (fun c_32 => ?_)
                  · refine lv_iload_n hx hb dX4_isRight_302 rfl (lv_at hl 1 rfl) ?_
                    have hend : nI rt = if okC tag tx 0 n = true then 1 else 0 := by rw [show okC tag tx 0 n = okObj tx 0 n by unfold okC; rw [if_neg (by omega), if_neg (by omega), if_neg (by omega), if_neg (by omega), if_pos (by assumption)], hrt, show k = n by omega, obR_end]; split <;> rfl
                    refine hl_top hend ?_
                    have hP9 : va_P (dC, dI) vwCl (vX4_isRight cA m0 m1 m2 m3 m4 m5 m6 m7 m8 m9 cd row sz1 nd tg st ln pa rd of ar dp at_ rs fd pl tx ou wr op on dn tag n ()) _ := hP
                    have hD9 : va_D A (vX4_isRight cA m0 m1 m2 m3 m4 m5 m6 m7 m8 m9 cd row sz1 nd tg st ln pa rd of ar dp at_ rs fd pl tx ou wr op on dn tag n ()) := hD
                    have hq9 : pX4_isRight m0 m1 m2 m3 m4 m5 m6 m7 m8 m9 cd row sz1 nd tg st ln pa rd of ar dp at_ rs fd pl tx ou wr op on dn tag n ((if okC tag tx 0 n = true then 1 else 0)) () := rfl
                    exact W.zret (v := (if okC tag tx 0 n = true then 1 else 0)) hx hb hr (z_narrow _) (fun t ht hW => ⟨⟨(if okC tag tx 0 n = true then 1 else 0), (), rfl, hq9, by rw [ht]; exact hP9, va_K.moved hW.alike hK, hD9⟩, hS.F ht⟩) hS.2.2 dX4_isRight_303
                  · refine lv_iload hx hb dX4_isRight_220 (lv_at hl 0 rfl) ?_
                    refine hl_if_eq (tgt := 240) hx hb dX4_isRight_222 (by decide) (by omega) (fun c_33 => ?_) (fun c_33 => ?_)
                    · refine lv_iconst (v := nI 1) hx hb dX4_isRight_240 (by decide) ?_
                      refine lv_goto (tgt := 245) hx hb dX4_isRight_241 (by decide) ?_
                      refine lv_istore (lv' := [(5, .int (nI 1)), (4, .int (nI k)), (3, .int (nI rt)), (0, .ref m0), (1, .int (nI tag)), (2, .int (nI n))]) hx hb dX4_isRight_245 hl (by decide) rfl (fun ls hl => ?_)
                      refine lv_iload_n hx hb dX4_isRight_247 rfl (lv_at hl 2 rfl) ?_
                      refine hl_if_eq (tgt := 294) hx hb dX4_isRight_248 (by decide) (by omega) (fun c_34 => ?_) (fun c_34 => ?_)
                      · refine lv_iconst (v := nI 0) hx hb dX4_isRight_294 (by decide) ?_
                        refine lv_istore_n (lv' := [(3, .int (nI 0)), (5, .int (nI 1)), (4, .int (nI k)), (0, .ref m0), (1, .int (nI tag)), (2, .int (nI n))]) hx hb dX4_isRight_295 rfl hl (by decide) rfl (fun ls hl => ?_)
                        refine lv_iinc (v := (nI (k + 1))) (lv' := [(4, .int (nI (k + 1))), (3, .int (nI 0)), (5, .int (nI 1)), (0, .ref m0), (1, .int (nI tag)), (2, .int (nI n))]) hx hb dX4_isRight_296 hl (k := 2) rfl (nI_inc k 1) (by decide) rfl (fun ls hl => ?_)
                        refine lv_goto (tgt := 214) hx hb dX4_isRight_299 (by decide) ?_
                        exact ih_214 (k + 1) 0 (by omega) (by omega) (obR_next (by omega) hrt (by omega)) _ _ _ hP hD hS (lv_sub hl [0, 1, 3, 4, 5] rfl)
                      · refine lv_iload hx hb dX4_isRight_251 (lv_at hl 0 rfl) ?_
                        refine hl_if_eq (tgt := 269) hx hb dX4_isRight_253 (by decide) (by omega) (fun c_35 => absurd c_35 (by decide)) (fun c_35 => ?_)
                        refine lv_aload_n hx hb dX4_isRight_256 rfl (lv_at hl 3 rfl) ?_
                        refine va_get (D := (dC, dI)) (ci := 3) (v := .ref m7) (C := RX4) (T := TX4) (N := 22) hx hb hts hinX4 hown hK hP 0 rfl rfl 16 (by decide) hf_32 (fun _ h9 => h9) rfl dX4_isRight_257 ?_
                        refine lv_iload hx hb dX4_isRight_260 (lv_at hl 1 rfl) ?_
                        refine hl_iald hx hb hK hP 7 0 rfl rfl (by omega) (by decide) dX4_isRight_262 ?_
                        have hv_36 := htx k
                        refine lv_sipush (v := nI 128) hx hb dX4_isRight_263 (by decide) ?_
                        refine hl_icmp_eq (tgt := 294) hx hb dX4_isRight_266 (by decide) (by omega) (by omega) (fun c_37 => ?_) (fun c_37 => ?_)
                        · refine lv_iconst (v := nI 0) hx hb dX4_isRight_294 (by decide) ?_
                          refine lv_istore_n (lv' := [(3, .int (nI 0)), (5, .int (nI 1)), (4, .int (nI k)), (0, .ref m0), (1, .int (nI tag)), (2, .int (nI n))]) hx hb dX4_isRight_295 rfl hl (by decide) rfl (fun ls hl => ?_)
                          refine lv_iinc (v := (nI (k + 1))) (lv' := [(4, .int (nI (k + 1))), (3, .int (nI 0)), (5, .int (nI 1)), (0, .ref m0), (1, .int (nI tag)), (2, .int (nI n))]) hx hb dX4_isRight_296 hl (k := 2) rfl (nI_inc k 1) (by decide) rfl (fun ls hl => ?_)
                          refine lv_goto (tgt := 214) hx hb dX4_isRight_299 (by decide) ?_
                          exact ih_214 (k + 1) 0 (by omega) (by omega) (obR_next (by omega) hrt (by omega)) _ _ _ hP hD hS (lv_sub hl [0, 1, 3, 4, 5] rfl)
                        · refine lv_iload hx hb dX4_isRight_269 (lv_at hl 1 rfl) ?_
                          refine lv_iload_n hx hb dX4_isRight_271 rfl (lv_at hl 5 rfl) ?_
                          refine lv_iconst (v := nI 1) hx hb dX4_isRight_272 (by decide) ?_
                          refine hl_isub hx hb (by omega) dX4_isRight_273 ?_
                          refine hl_icmp_lt (tgt := 290) hx hb dX4_isRight_274 (by decide) (by omega) (by omega) (fun c_38 => ?_) (fun c_38 => ?_)
                          · refine lv_iconst (v := nI 1) hx hb dX4_isRight_290 (by decide) ?_
                            refine lv_goto (tgt := 295) hx hb dX4_isRight_291 (by decide) ?_
                            refine lv_istore_n (lv' := [(3, .int (nI 1)), (5, .int (nI 1)), (4, .int (nI k)), (0, .ref m0), (1, .int (nI tag)), (2, .int (nI n))]) hx hb dX4_isRight_295 rfl hl (by decide) rfl (fun ls hl => ?_)
                            refine lv_iinc (v := (nI (k + 1))) (lv' := [(4, .int (nI (k + 1))), (3, .int (nI 1)), (5, .int (nI 1)), (0, .ref m0), (1, .int (nI tag)), (2, .int (nI n))]) hx hb dX4_isRight_296 hl (k := 2) rfl (nI_inc k 1) (by decide) rfl (fun ls hl => ?_)
                            refine lv_goto (tgt := 214) hx hb dX4_isRight_299 (by decide) ?_
                            exact ih_214 (k + 1) 1 (by omega) (by omega) (obR_next (by omega) hrt (by omega)) _ _ _ hP hD hS (lv_sub hl [0, 1, 3, 4, 5] rfl)
                          · refine lv_aload_n hx hb dX4_isRight_277 rfl (lv_at hl 3 rfl) ?_
                            refine va_get (D := (dC, dI)) (ci := 3) (v := .ref m7) (C := RX4) (T := TX4) (N := 22) hx hb hts hinX4 hown hK hP 0 rfl rfl 16 (by decide) hf_32 (fun _ h9 => h9) rfl dX4_isRight_278 ?_
                            refine lv_iload hx hb dX4_isRight_281 (lv_at hl 1 rfl) ?_
                            refine hl_iald hx hb hK hP 7 0 rfl rfl (by omega) (by decide) dX4_isRight_283 ?_
                            have hv_39 := htx k
                            refine lv_sipush (v := nI 128) hx hb dX4_isRight_284 (by decide) ?_
                            refine hl_icmp_ge (tgt := 294) hx hb dX4_isRight_287 (by decide) (by omega) (by omega) (fun c_40 => ?_) (fun c_40 => ?_)
                            · refine lv_iconst (v := nI 0) hx hb dX4_isRight_294 (by decide) ?_
                              refine lv_istore_n (lv' := [(3, .int (nI 0)), (5, .int (nI 1)), (4, .int (nI k)), (0, .ref m0), (1, .int (nI tag)), (2, .int (nI n))]) hx hb dX4_isRight_295 rfl hl (by decide) rfl (fun ls hl => ?_)
                              refine lv_iinc (v := (nI (k + 1))) (lv' := [(4, .int (nI (k + 1))), (3, .int (nI 0)), (5, .int (nI 1)), (0, .ref m0), (1, .int (nI tag)), (2, .int (nI n))]) hx hb dX4_isRight_296 hl (k := 2) rfl (nI_inc k 1) (by decide) rfl (fun ls hl => ?_)
                              refine lv_goto (tgt := 214) hx hb dX4_isRight_299 (by decide) ?_
                              exact ih_214 (k + 1) 0 (by omega) (by omega) (obR_next (by omega) hrt (by omega)) _ _ _ hP hD hS (lv_sub hl [0, 1, 3, 4, 5] rfl)
                            · refine lv_iconst (v := nI 1) hx hb dX4_isRight_290 (by decide) ?_
                              refine lv_goto (tgt := 295) hx hb dX4_isRight_291 (by decide) ?_
                              refine lv_istore_n (lv' := [(3, .int (nI 1)), (5, .int (nI 1)), (4, .int (nI k)), (0, .ref m0), (1, .int (nI tag)), (2, .int (nI n))]) hx hb dX4_isRight_295 rfl hl (by decide) rfl (fun ls hl => ?_)
                              refine lv_iinc (v := (nI (k + 1))) (lv' := [(4, .int (nI (k + 1))), (3, .int (nI 1)), (5, .int (nI 1)), (0, .ref m0), (1, .int (nI tag)), (2, .int (nI n))]) hx hb dX4_isRight_296 hl (k := 2) rfl (nI_inc k 1) (by decide) rfl (fun ls hl => ?_)
                              refine lv_goto (tgt := 214) hx hb dX4_isRight_299 (by decide) ?_
                              exact ih_214 (k + 1) 1 (by omega) (by omega) (obR_next (by omega) hrt (by omega)) _ _ _ hP hD hS (lv_sub hl [0, 1, 3, 4, 5] rfl)
                    · refine lv_aload_n hx hb dX4_isRight_225 rfl (lv_at hl 2 rfl) ?_
                      refine va_get (D := (dC, dI)) (ci := 3) (v := .ref m7) (C := RX4) (T := TX4) (N := 22) hx hb hts hinX4 hown hK hP 0 rfl rfl 16 (by decide) hf_32 (fun _ h9 => h9) rfl dX4_isRight_226 ?_
                      refine lv_iload hx hb dX4_isRight_229 (lv_at hl 0 rfl) ?_
                      refine lv_iconst (v := nI 1) hx hb dX4_isRight_231 (by decide) ?_
                      refine hl_isub hx hb (by omega) dX4_isRight_232 ?_
                      refine hl_iald hx hb hK hP 7 0 rfl rfl (by omega) (by decide) dX4_isRight_233 ?_
                      have hv_41 := htx (k - 1)
                      refine lv_sipush (v := nI 128) hx hb dX4_isRight_234 (by decide) ?_
                      refine hl_icmp_ge (tgt := 244) hx hb dX4_isRight_237 (by decide) (by omega) (by omega) (fun c_42 => ?_) (fun c_42 => ?_)
                      · refine lv_iconst (v := nI 0) hx hb dX4_isRight_244 (by decide) ?_
                        refine lv_istore (lv' := [(5, .int (nI 0)), (4, .int (nI k)), (3, .int (nI rt)), (0, .ref m0), (1, .int (nI tag)), (2, .int (nI n))]) hx hb dX4_isRight_245 hl (by decide) rfl (fun ls hl => ?_)
                        refine lv_iload_n hx hb dX4_isRight_247 rfl (lv_at hl 2 rfl) ?_
                        refine hl_if_eq (tgt := 294) hx hb dX4_isRight_248 (by decide) (by omega) (fun c_43 => ?_) (fun c_43 => ?_)
                        · refine lv_iconst (v := nI 0) hx hb dX4_isRight_294 (by decide) ?_
                          refine lv_istore_n (lv' := [(3, .int (nI 0)), (5, .int (nI 0)), (4, .int (nI k)), (0, .ref m0), (1, .int (nI tag)), (2, .int (nI n))]) hx hb dX4_isRight_295 rfl hl (by decide) rfl (fun ls hl => ?_)
                          refine lv_iinc (v := (nI (k + 1))) (lv' := [(4, .int (nI (k + 1))), (3, .int (nI 0)), (5, .int (nI 0)), (0, .ref m0), (1, .int (nI tag)), (2, .int (nI n))]) hx hb dX4_isRight_296 hl (k := 2) rfl (nI_inc k 1) (by decide) rfl (fun ls hl => ?_)
                          refine lv_goto (tgt := 214) hx hb dX4_isRight_299 (by decide) ?_
                          exact ih_214 (k + 1) 0 (by omega) (by omega) (obR_next (by omega) hrt (by omega)) _ _ _ hP hD hS (lv_sub hl [0, 1, 3, 4, 5] rfl)
                        · refine lv_iload hx hb dX4_isRight_251 (lv_at hl 0 rfl) ?_
                          refine hl_if_eq (tgt := 269) hx hb dX4_isRight_253 (by decide) (by omega) (fun c_44 => ?_) (fun c_44 => absurd c_44 (by decide))
                          refine lv_iload hx hb dX4_isRight_269 (lv_at hl 1 rfl) ?_
                          refine lv_iload_n hx hb dX4_isRight_271 rfl (lv_at hl 5 rfl) ?_
                          refine lv_iconst (v := nI 1) hx hb dX4_isRight_272 (by decide) ?_
                          refine hl_isub hx hb (by omega) dX4_isRight_273 ?_
                          refine hl_icmp_lt (tgt := 290) hx hb dX4_isRight_274 (by decide) (by omega) (by omega) (fun c_45 => ?_) (fun c_45 => ?_)
                          · refine lv_iconst (v := nI 1) hx hb dX4_isRight_290 (by decide) ?_
                            refine lv_goto (tgt := 295) hx hb dX4_isRight_291 (by decide) ?_
                            refine lv_istore_n (lv' := [(3, .int (nI 1)), (5, .int (nI 0)), (4, .int (nI k)), (0, .ref m0), (1, .int (nI tag)), (2, .int (nI n))]) hx hb dX4_isRight_295 rfl hl (by decide) rfl (fun ls hl => ?_)
                            refine lv_iinc (v := (nI (k + 1))) (lv' := [(4, .int (nI (k + 1))), (3, .int (nI 1)), (5, .int (nI 0)), (0, .ref m0), (1, .int (nI tag)), (2, .int (nI n))]) hx hb dX4_isRight_296 hl (k := 2) rfl (nI_inc k 1) (by decide) rfl (fun ls hl => ?_)
                            refine lv_goto (tgt := 214) hx hb dX4_isRight_299 (by decide) ?_
                            exact ih_214 (k + 1) 1 (by omega) (by omega) (obR_next (by omega) hrt (by omega)) _ _ _ hP hD hS (lv_sub hl [0, 1, 3, 4, 5] rfl)
                          · refine lv_aload_n hx hb dX4_isRight_277 rfl (lv_at hl 3 rfl) ?_
                            refine va_get (D := (dC, dI)) (ci := 3) (v := .ref m7) (C := RX4) (T := TX4) (N := 22) hx hb hts hinX4 hown hK hP 0 rfl rfl 16 (by decide) hf_32 (fun _ h9 => h9) rfl dX4_isRight_278 ?_
                            refine lv_iload hx hb dX4_isRight_281 (lv_at hl 1 rfl) ?_
                            refine hl_iald hx hb hK hP 7 0 rfl rfl (by omega) (by decide) dX4_isRight_283 ?_
                            have hv_46 := htx k
                            refine lv_sipush (v := nI 128) hx hb dX4_isRight_284 (by decide) ?_
                            refine hl_icmp_ge (tgt := 294) hx hb dX4_isRight_287 (by decide) (by omega) (by omega) (fun c_47 => ?_) (fun c_47 => ?_)
                            · refine lv_iconst (v := nI 0) hx hb dX4_isRight_294 (by decide) ?_
                              refine lv_istore_n (lv' := [(3, .int (nI 0)), (5, .int (nI 0)), (4, .int (nI k)), (0, .ref m0), (1, .int (nI tag)), (2, .int (nI n))]) hx hb dX4_isRight_295 rfl hl (by decide) rfl (fun ls hl => ?_)
                              refine lv_iinc (v := (nI (k + 1))) (lv' := [(4, .int (nI (k + 1))), (3, .int (nI 0)), (5, .int (nI 0)), (0, .ref m0), (1, .int (nI tag)), (2, .int (nI n))]) hx hb dX4_isRight_296 hl (k := 2) rfl (nI_inc k 1) (by decide) rfl (fun ls hl => ?_)
                              refine lv_goto (tgt := 214) hx hb dX4_isRight_299 (by decide) ?_
                              exact ih_214 (k + 1) 0 (by omega) (by omega) (obR_next (by omega) hrt (by omega)) _ _ _ hP hD hS (lv_sub hl [0, 1, 3, 4, 5] rfl)
                            · refine lv_iconst (v := nI 1) hx hb dX4_isRight_290 (by decide) ?_
                              refine lv_goto (tgt := 295) hx hb dX4_isRight_291 (by decide) ?_
                              refine lv_istore_n (lv' := [(3, .int (nI 1)), (5, .int (nI 0)), (4, .int (nI k)), (0, .ref m0), (1, .int (nI tag)), (2, .int (nI n))]) hx hb dX4_isRight_295 rfl hl (by decide) rfl (fun ls hl => ?_)
                              refine lv_iinc (v := (nI (k + 1))) (lv' := [(4, .int (nI (k + 1))), (3, .int (nI 1)), (5, .int (nI 0)), (0, .ref m0), (1, .int (nI tag)), (2, .int (nI n))]) hx hb dX4_isRight_296 hl (k := 2) rfl (nI_inc k 1) (by decide) rfl (fun ls hl => ?_)
                              refine lv_goto (tgt := 214) hx hb dX4_isRight_299 (by decide) ?_
                              exact ih_214 (k + 1) 1 (by omega) (by omega) (obR_next (by omega) hrt (by omega)) _ _ _ hP hD hS (lv_sub hl [0, 1, 3, 4, 5] rfl)
                      · refine lv_iconst (v := nI 1) hx hb dX4_isRight_240 (by decide) ?_
                        refine lv_goto (tgt := 245) hx hb dX4_isRight_241 (by decide) ?_
                        refine lv_istore (lv' := [(5, .int (nI 1)), (4, .int (nI k)), (3, .int (nI rt)), (0, .ref m0), (1, .int (nI tag)), (2, .int (nI n))]) hx hb dX4_isRight_245 hl (by decide) rfl (fun ls hl => ?_)
                        refine lv_iload_n hx hb dX4_isRight_247 rfl (lv_at hl 2 rfl) ?_
                        refine hl_if_eq (tgt := 294) hx hb dX4_isRight_248 (by decide) (by omega) (fun c_48 => ?_) (fun c_48 => ?_)
                        · refine lv_iconst (v := nI 0) hx hb dX4_isRight_294 (by decide) ?_
                          refine lv_istore_n (lv' := [(3, .int (nI 0)), (5, .int (nI 1)), (4, .int (nI k)), (0, .ref m0), (1, .int (nI tag)), (2, .int (nI n))]) hx hb dX4_isRight_295 rfl hl (by decide) rfl (fun ls hl => ?_)
                          refine lv_iinc (v := (nI (k + 1))) (lv' := [(4, .int (nI (k + 1))), (3, .int (nI 0)), (5, .int (nI 1)), (0, .ref m0), (1, .int (nI tag)), (2, .int (nI n))]) hx hb dX4_isRight_296 hl (k := 2) rfl (nI_inc k 1) (by decide) rfl (fun ls hl => ?_)
                          refine lv_goto (tgt := 214) hx hb dX4_isRight_299 (by decide) ?_
                          exact ih_214 (k + 1) 0 (by omega) (by omega) (obR_next (by omega) hrt (by omega)) _ _ _ hP hD hS (lv_sub hl [0, 1, 3, 4, 5] rfl)
                        · refine lv_iload hx hb dX4_isRight_251 (lv_at hl 0 rfl) ?_
                          refine hl_if_eq (tgt := 269) hx hb dX4_isRight_253 (by decide) (by omega) (fun c_49 => absurd c_49 (by decide)) (fun c_49 => ?_)
                          refine lv_aload_n hx hb dX4_isRight_256 rfl (lv_at hl 3 rfl) ?_
                          refine va_get (D := (dC, dI)) (ci := 3) (v := .ref m7) (C := RX4) (T := TX4) (N := 22) hx hb hts hinX4 hown hK hP 0 rfl rfl 16 (by decide) hf_32 (fun _ h9 => h9) rfl dX4_isRight_257 ?_
                          refine lv_iload hx hb dX4_isRight_260 (lv_at hl 1 rfl) ?_
                          refine hl_iald hx hb hK hP 7 0 rfl rfl (by omega) (by decide) dX4_isRight_262 ?_
                          have hv_50 := htx k
                          refine lv_sipush (v := nI 128) hx hb dX4_isRight_263 (by decide) ?_
                          refine hl_icmp_eq (tgt := 294) hx hb dX4_isRight_266 (by decide) (by omega) (by omega) (fun c_51 => ?_) (fun c_51 => ?_)
                          · refine lv_iconst (v := nI 0) hx hb dX4_isRight_294 (by decide) ?_
                            refine lv_istore_n (lv' := [(3, .int (nI 0)), (5, .int (nI 1)), (4, .int (nI k)), (0, .ref m0), (1, .int (nI tag)), (2, .int (nI n))]) hx hb dX4_isRight_295 rfl hl (by decide) rfl (fun ls hl => ?_)
                            refine lv_iinc (v := (nI (k + 1))) (lv' := [(4, .int (nI (k + 1))), (3, .int (nI 0)), (5, .int (nI 1)), (0, .ref m0), (1, .int (nI tag)), (2, .int (nI n))]) hx hb dX4_isRight_296 hl (k := 2) rfl (nI_inc k 1) (by decide) rfl (fun ls hl => ?_)
                            refine lv_goto (tgt := 214) hx hb dX4_isRight_299 (by decide) ?_
                            exact ih_214 (k + 1) 0 (by omega) (by omega) (obR_next (by omega) hrt (by omega)) _ _ _ hP hD hS (lv_sub hl [0, 1, 3, 4, 5] rfl)
                          · refine lv_iload hx hb dX4_isRight_269 (lv_at hl 1 rfl) ?_
                            refine lv_iload_n hx hb dX4_isRight_271 rfl (lv_at hl 5 rfl) ?_
                            refine lv_iconst (v := nI 1) hx hb dX4_isRight_272 (by decide) ?_
                            refine hl_isub hx hb (by omega) dX4_isRight_273 ?_
                            refine hl_icmp_lt (tgt := 290) hx hb dX4_isRight_274 (by decide) (by omega) (by omega) (fun c_52 => ?_) (fun c_52 => ?_)
                            · refine lv_iconst (v := nI 1) hx hb dX4_isRight_290 (by decide) ?_
                              refine lv_goto (tgt := 295) hx hb dX4_isRight_291 (by decide) ?_
                              refine lv_istore_n (lv' := [(3, .int (nI 1)), (5, .int (nI 1)), (4, .int (nI k)), (0, .ref m0), (1, .int (nI tag)), (2, .int (nI n))]) hx hb dX4_isRight_295 rfl hl (by decide) rfl (fun ls hl => ?_)
                              refine lv_iinc (v := (nI (k + 1))) (lv' := [(4, .int (nI (k + 1))), (3, .int (nI 1)), (5, .int (nI 1)), (0, .ref m0), (1, .int (nI tag)), (2, .int (nI n))]) hx hb dX4_isRight_296 hl (k := 2) rfl (nI_inc k 1) (by decide) rfl (fun ls hl => ?_)
                              refine lv_goto (tgt := 214) hx hb dX4_isRight_299 (by decide) ?_
                              exact ih_214 (k + 1) 1 (by omega) (by omega) (obR_next (by omega) hrt (by omega)) _ _ _ hP hD hS (lv_sub hl [0, 1, 3, 4, 5] rfl)
                            · refine lv_aload_n hx hb dX4_isRight_277 rfl (lv_at hl 3 rfl) ?_
                              refine va_get (D := (dC, dI)) (ci := 3) (v := .ref m7) (C := RX4) (T := TX4) (N := 22) hx hb hts hinX4 hown hK hP 0 rfl rfl 16 (by decide) hf_32 (fun _ h9 => h9) rfl dX4_isRight_278 ?_
                              refine lv_iload hx hb dX4_isRight_281 (lv_at hl 1 rfl) ?_
                              refine hl_iald hx hb hK hP 7 0 rfl rfl (by omega) (by decide) dX4_isRight_283 ?_
                              have hv_53 := htx k
                              refine lv_sipush (v := nI 128) hx hb dX4_isRight_284 (by decide) ?_
                              refine hl_icmp_ge (tgt := 294) hx hb dX4_isRight_287 (by decide) (by omega) (by omega) (fun c_54 => ?_) (fun c_54 => ?_)
                              · refine lv_iconst (v := nI 0) hx hb dX4_isRight_294 (by decide) ?_
                                refine lv_istore_n (lv' := [(3, .int (nI 0)), (5, .int (nI 1)), (4, .int (nI k)), (0, .ref m0), (1, .int (nI tag)), (2, .int (nI n))]) hx hb dX4_isRight_295 rfl hl (by decide) rfl (fun ls hl => ?_)
                                refine lv_iinc (v := (nI (k + 1))) (lv' := [(4, .int (nI (k + 1))), (3, .int (nI 0)), (5, .int (nI 1)), (0, .ref m0), (1, .int (nI tag)), (2, .int (nI n))]) hx hb dX4_isRight_296 hl (k := 2) rfl (nI_inc k 1) (by decide) rfl (fun ls hl => ?_)
                                refine lv_goto (tgt := 214) hx hb dX4_isRight_299 (by decide) ?_
                                exact ih_214 (k + 1) 0 (by omega) (by omega) (obR_next (by omega) hrt (by omega)) _ _ _ hP hD hS (lv_sub hl [0, 1, 3, 4, 5] rfl)
                              · refine lv_iconst (v := nI 1) hx hb dX4_isRight_290 (by decide) ?_
                                refine lv_goto (tgt := 295) hx hb dX4_isRight_291 (by decide) ?_
                                refine lv_istore_n (lv' := [(3, .int (nI 1)), (5, .int (nI 1)), (4, .int (nI k)), (0, .ref m0), (1, .int (nI tag)), (2, .int (nI n))]) hx hb dX4_isRight_295 rfl hl (by decide) rfl (fun ls hl => ?_)
                                refine lv_iinc (v := (nI (k + 1))) (lv' := [(4, .int (nI (k + 1))), (3, .int (nI 1)), (5, .int (nI 1)), (0, .ref m0), (1, .int (nI tag)), (2, .int (nI n))]) hx hb dX4_isRight_296 hl (k := 2) rfl (nI_inc k 1) (by decide) rfl (fun ls hl => ?_)
                                refine lv_goto (tgt := 214) hx hb dX4_isRight_299 (by decide) ?_
                                exact ih_214 (k + 1) 1 (by omega) (by omega) (obR_next (by omega) hrt (by omega)) _ _ _ hP hD hS (lv_sub hl [0, 1, 3, 4, 5] rfl)
              exact lp_214 (n - 0 + 1) 0 1 (Nat.lt_succ_self _) (by omega) (by unfold obR; show _ = if (_ && true && _) = true then 1 else 0; simp only [Bool.and_true, Bool.and_eq_true, Bool.or_eq_true, decide_eq_true_eq]; split <;> omega) _ _ _ hP hD hS (lv_sub hl [0, 1, 2, 3, 4] rfl)
          · refine lv_iconst (v := nI 1) hx hb dX4_isRight_199 (by decide) ?_
            have hP9 : va_P (dC, dI) vwCl (vX4_isRight cA m0 m1 m2 m3 m4 m5 m6 m7 m8 m9 cd row sz1 nd tg st ln pa rd of ar dp at_ rs fd pl tx ou wr op on dn tag n ()) _ := hP
            have hD9 : va_D A (vX4_isRight cA m0 m1 m2 m3 m4 m5 m6 m7 m8 m9 cd row sz1 nd tg st ln pa rd of ar dp at_ rs fd pl tx ou wr op on dn tag n ()) := hD
            have hq9 : pX4_isRight m0 m1 m2 m3 m4 m5 m6 m7 m8 m9 cd row sz1 nd tg st ln pa rd of ar dp at_ rs fd pl tx ou wr op on dn tag n (nI 1) () := (if_pos (by unfold okC; rw [if_neg (by omega), if_neg (by omega), if_neg (by omega), if_neg (by omega), if_neg (by assumption)])).symm
            exact W.zret (v := nI 1) hx hb hr rfl (fun t ht hW => ⟨⟨nI 1, (), rfl, hq9, by rw [ht]; exact hP9, va_K.moved hW.alike hK, hD9⟩, hS.F ht⟩) hS.2.2 dX4_isRight_200
        · refine lv_iload_n hx hb dX4_isRight_183 rfl (lv_at hl 2 rfl) ?_
          refine hl_if_ne (tgt := 191) hx hb dX4_isRight_184 (by decide) (by omega) (fun c_55 => ?_) (fun c_55 => ?_)
          · refine lv_iconst (v := nI 0) hx hb dX4_isRight_191 (by decide) ?_
            have hP9 : va_P (dC, dI) vwCl (vX4_isRight cA m0 m1 m2 m3 m4 m5 m6 m7 m8 m9 cd row sz1 nd tg st ln pa rd of ar dp at_ rs fd pl tx ou wr op on dn tag n ()) _ := hP
            have hD9 : va_D A (vX4_isRight cA m0 m1 m2 m3 m4 m5 m6 m7 m8 m9 cd row sz1 nd tg st ln pa rd of ar dp at_ rs fd pl tx ou wr op on dn tag n ()) := hD
            have hq9 : pX4_isRight m0 m1 m2 m3 m4 m5 m6 m7 m8 m9 cd row sz1 nd tg st ln pa rd of ar dp at_ rs fd pl tx ou wr op on dn tag n (nI 0) () := (if_neg (by unfold okC; rw [if_neg (by omega), if_neg (by omega), if_neg (by omega), if_pos (by assumption), decide_eq_true_eq]; omega)).symm
            exact W.zret (v := nI 0) hx hb hr rfl (fun t ht hW => ⟨⟨nI 0, (), rfl, hq9, by rw [ht]; exact hP9, va_K.moved hW.alike hK, hD9⟩, hS.F ht⟩) hS.2.2 dX4_isRight_192
          · refine lv_iconst (v := nI 1) hx hb dX4_isRight_187 (by decide) ?_
            refine lv_goto (tgt := 192) hx hb dX4_isRight_188 (by decide) ?_
            have hP9 : va_P (dC, dI) vwCl (vX4_isRight cA m0 m1 m2 m3 m4 m5 m6 m7 m8 m9 cd row sz1 nd tg st ln pa rd of ar dp at_ rs fd pl tx ou wr op on dn tag n ()) _ := hP
            have hD9 : va_D A (vX4_isRight cA m0 m1 m2 m3 m4 m5 m6 m7 m8 m9 cd row sz1 nd tg st ln pa rd of ar dp at_ rs fd pl tx ou wr op on dn tag n ()) := hD
            have hq9 : pX4_isRight m0 m1 m2 m3 m4 m5 m6 m7 m8 m9 cd row sz1 nd tg st ln pa rd of ar dp at_ rs fd pl tx ou wr op on dn tag n (nI 1) () := (if_pos (by unfold okC; rw [if_neg (by omega), if_neg (by omega), if_neg (by omega), if_pos (by assumption), decide_eq_true_eq]; omega)).symm
            exact W.zret (v := nI 1) hx hb hr rfl (fun t ht hW => ⟨⟨nI 1, (), rfl, hq9, by rw [ht]; exact hP9, va_K.moved hW.alike hK, hD9⟩, hS.F ht⟩) hS.2.2 dX4_isRight_192
      · refine lv_iload_n hx hb dX4_isRight_116 rfl (lv_at hl 2 rfl) ?_
        refine hl_if_eq (tgt := 145) hx hb dX4_isRight_117 (by decide) (by omega) (fun c_56 => ?_) (fun c_56 => ?_)
        · refine lv_iconst (v := nI 0) hx hb dX4_isRight_145 (by decide) ?_
          have hP9 : va_P (dC, dI) vwCl (vX4_isRight cA m0 m1 m2 m3 m4 m5 m6 m7 m8 m9 cd row sz1 nd tg st ln pa rd of ar dp at_ rs fd pl tx ou wr op on dn tag n ()) _ := hP
          have hD9 : va_D A (vX4_isRight cA m0 m1 m2 m3 m4 m5 m6 m7 m8 m9 cd row sz1 nd tg st ln pa rd of ar dp at_ rs fd pl tx ou wr op on dn tag n ()) := hD
          have hq9 : pX4_isRight m0 m1 m2 m3 m4 m5 m6 m7 m8 m9 cd row sz1 nd tg st ln pa rd of ar dp at_ rs fd pl tx ou wr op on dn tag n (nI 0) () := (if_neg (by unfold okC; rw [if_neg (by omega), if_neg (by omega), if_pos (by assumption)]; unfold okBits; rw [decide_eq_true_eq, Nat.zero_add]; omega)).symm
          exact W.zret (v := nI 0) hx hb hr rfl (fun t ht hW => ⟨⟨nI 0, (), rfl, hq9, by rw [ht]; exact hP9, va_K.moved hW.alike hK, hD9⟩, hS.F ht⟩) hS.2.2 dX4_isRight_146
        · refine lv_aload_n hx hb dX4_isRight_120 rfl (lv_at hl 0 rfl) ?_
          refine va_get (D := (dC, dI)) (ci := 3) (v := .ref m7) (C := RX4) (T := TX4) (N := 22) hx hb hts hinX4 hown hK hP 0 rfl rfl 16 (by decide) hf_32 (fun _ h9 => h9) rfl dX4_isRight_121 ?_
          refine lv_iconst (v := nI 0) hx hb dX4_isRight_124 (by decide) ?_
          refine hl_iald hx hb hK hP 7 0 rfl rfl (by omega) (by decide) dX4_isRight_125 ?_
          have hv_57 := htx 0
          refine lv_bipush (v := nI 7) hx hb dX4_isRight_126 (by decide) ?_
          refine hl_icmp_gt (tgt := 145) hx hb dX4_isRight_128 (by decide) (by omega) (by omega) (fun c_58 => ?_) (fun c_58 => ?_)
          · refine lv_iconst (v := nI 0) hx hb dX4_isRight_145 (by decide) ?_
            have hP9 : va_P (dC, dI) vwCl (vX4_isRight cA m0 m1 m2 m3 m4 m5 m6 m7 m8 m9 cd row sz1 nd tg st ln pa rd of ar dp at_ rs fd pl tx ou wr op on dn tag n ()) _ := hP
            have hD9 : va_D A (vX4_isRight cA m0 m1 m2 m3 m4 m5 m6 m7 m8 m9 cd row sz1 nd tg st ln pa rd of ar dp at_ rs fd pl tx ou wr op on dn tag n ()) := hD
            have hq9 : pX4_isRight m0 m1 m2 m3 m4 m5 m6 m7 m8 m9 cd row sz1 nd tg st ln pa rd of ar dp at_ rs fd pl tx ou wr op on dn tag n (nI 0) () := (if_neg (by unfold okC; rw [if_neg (by omega), if_neg (by omega), if_pos (by assumption)]; unfold okBits; rw [decide_eq_true_eq, Nat.zero_add]; omega)).symm
            exact W.zret (v := nI 0) hx hb hr rfl (fun t ht hW => ⟨⟨nI 0, (), rfl, hq9, by rw [ht]; exact hP9, va_K.moved hW.alike hK, hD9⟩, hS.F ht⟩) hS.2.2 dX4_isRight_146
          · refine lv_iload_n hx hb dX4_isRight_131 rfl (lv_at hl 2 rfl) ?_
            refine lv_iconst (v := nI 1) hx hb dX4_isRight_132 (by decide) ?_
            refine hl_icmp_ne (tgt := 147) hx hb dX4_isRight_133 (by decide) (by omega) (by omega) (fun c_59 => ?_) (fun c_59 => ?_)
            · refine lv_iload_n hx hb dX4_isRight_147 rfl (lv_at hl 2 rfl) ?_
              refine lv_iconst (v := nI 1) hx hb dX4_isRight_148 (by decide) ?_
              refine hl_icmp_eq (tgt := 172) hx hb dX4_isRight_149 (by decide) (by omega) (by omega) (fun c_60 => ?_) (fun c_60 => ?_)
              · refine lv_iconst (v := nI 1) hx hb dX4_isRight_172 (by decide) ?_
                refine lv_goto (tgt := 177) hx hb dX4_isRight_173 (by decide) ?_
                have hP9 : va_P (dC, dI) vwCl (vX4_isRight cA m0 m1 m2 m3 m4 m5 m6 m7 m8 m9 cd row sz1 nd tg st ln pa rd of ar dp at_ rs fd pl tx ou wr op on dn tag n ()) _ := hP
                have hD9 : va_D A (vX4_isRight cA m0 m1 m2 m3 m4 m5 m6 m7 m8 m9 cd row sz1 nd tg st ln pa rd of ar dp at_ rs fd pl tx ou wr op on dn tag n ()) := hD
                have hq9 : pX4_isRight m0 m1 m2 m3 m4 m5 m6 m7 m8 m9 cd row sz1 nd tg st ln pa rd of ar dp at_ rs fd pl tx ou wr op on dn tag n (nI 1) () := (if_pos (by unfold okC; rw [if_neg (by omega), if_neg (by omega), if_pos (by assumption)]; unfold okBits; rw [decide_eq_true_eq, Nat.zero_add]; first | omega | grind)).symm
                exact W.zret (v := nI 1) hx hb hr rfl (fun t ht hW => ⟨⟨nI 1, (), rfl, hq9, by rw [ht]; exact hP9, va_K.moved hW.alike hK, hD9⟩, hS.F ht⟩) hS.2.2 dX4_isRight_177
              · refine lv_aload_n hx hb dX4_isRight_152 rfl (lv_at hl 0 rfl) ?_
                refine va_get (D := (dC, dI)) (ci := 3) (v := .ref m7) (C := RX4) (T := TX4) (N := 22) hx hb hts hinX4 hown hK hP 0 rfl rfl 16 (by decide) hf_32 (fun _ h9 => h9) rfl dX4_isRight_153 ?_
                refine lv_iload_n hx hb dX4_isRight_156 rfl (lv_at hl 2 rfl) ?_
                refine lv_iconst (v := nI 1) hx hb dX4_isRight_157 (by decide) ?_
                refine hl_isub hx hb (by omega) dX4_isRight_158 ?_
                refine hl_iald hx hb hK hP 7 0 rfl rfl (by omega) (by decide) dX4_isRight_159 ?_
                have hv_61 := htx (n - 1)
                refine lv_iconst (v := nI 1) hx hb dX4_isRight_160 (by decide) ?_
                refine lv_aload_n hx hb dX4_isRight_161 rfl (lv_at hl 0 rfl) ?_
                refine va_get (D := (dC, dI)) (ci := 3) (v := .ref m7) (C := RX4) (T := TX4) (N := 22) hx hb hts hinX4 hown hK hP 0 rfl rfl 16 (by decide) hf_32 (fun _ h9 => h9) rfl dX4_isRight_162 ?_
                refine lv_iconst (v := nI 0) hx hb dX4_isRight_165 (by decide) ?_
                refine hl_iald hx hb hK hP 7 0 rfl rfl (by omega) (by decide) dX4_isRight_166 ?_
                have hv_62 := htx 0
                refine lv_ishl hx hb dX4_isRight_167 ?_
                refine lv_irem hx hb dX4_isRight_168 (bits_ne0 _ (by omega)) ?_
                refine lv_if_ne (tgt := 176) hx hb dX4_isRight_169 (by decide) (fun c_63 => ?_) (fun c_63 => ?_)
                · have c_63 : ¬ tx (n - 1) % 2 ^ (tx 0) = 0 := fun h => c_63 ((bits_rem _ (by omega) _ (htx _)).mpr h)
                  refine lv_iconst (v := nI 0) hx hb dX4_isRight_176 (by decide) ?_
                  have hP9 : va_P (dC, dI) vwCl (vX4_isRight cA m0 m1 m2 m3 m4 m5 m6 m7 m8 m9 cd row sz1 nd tg st ln pa rd of ar dp at_ rs fd pl tx ou wr op on dn tag n ()) _ := hP
                  have hD9 : va_D A (vX4_isRight cA m0 m1 m2 m3 m4 m5 m6 m7 m8 m9 cd row sz1 nd tg st ln pa rd of ar dp at_ rs fd pl tx ou wr op on dn tag n ()) := hD
                  have hq9 : pX4_isRight m0 m1 m2 m3 m4 m5 m6 m7 m8 m9 cd row sz1 nd tg st ln pa rd of ar dp at_ rs fd pl tx ou wr op on dn tag n (nI 0) () := (if_neg (by unfold okC; rw [if_neg (by omega), if_neg (by omega), if_pos (by assumption)]; unfold okBits; rw [decide_eq_true_eq, Nat.zero_add]; first | omega | grind)).symm
                  exact W.zret (v := nI 0) hx hb hr rfl (fun t ht hW => ⟨⟨nI 0, (), rfl, hq9, by rw [ht]; exact hP9, va_K.moved hW.alike hK, hD9⟩, hS.F ht⟩) hS.2.2 dX4_isRight_177
                · have c_63 := (bits_rem _ (by omega) _ (htx _)).mp c_63
                  refine lv_iconst (v := nI 1) hx hb dX4_isRight_172 (by decide) ?_
                  refine lv_goto (tgt := 177) hx hb dX4_isRight_173 (by decide) ?_
                  have hP9 : va_P (dC, dI) vwCl (vX4_isRight cA m0 m1 m2 m3 m4 m5 m6 m7 m8 m9 cd row sz1 nd tg st ln pa rd of ar dp at_ rs fd pl tx ou wr op on dn tag n ()) _ := hP
                  have hD9 : va_D A (vX4_isRight cA m0 m1 m2 m3 m4 m5 m6 m7 m8 m9 cd row sz1 nd tg st ln pa rd of ar dp at_ rs fd pl tx ou wr op on dn tag n ()) := hD
                  have hq9 : pX4_isRight m0 m1 m2 m3 m4 m5 m6 m7 m8 m9 cd row sz1 nd tg st ln pa rd of ar dp at_ rs fd pl tx ou wr op on dn tag n (nI 1) () := (if_pos (by unfold okC; rw [if_neg (by omega), if_neg (by omega), if_pos (by assumption)]; unfold okBits; rw [decide_eq_true_eq, Nat.zero_add]; first | omega | grind)).symm
                  exact W.zret (v := nI 1) hx hb hr rfl (fun t ht hW => ⟨⟨nI 1, (), rfl, hq9, by rw [ht]; exact hP9, va_K.moved hW.alike hK, hD9⟩, hS.F ht⟩) hS.2.2 dX4_isRight_177
            · refine lv_aload_n hx hb dX4_isRight_136 rfl (lv_at hl 0 rfl) ?_
              refine va_get (D := (dC, dI)) (ci := 3) (v := .ref m7) (C := RX4) (T := TX4) (N := 22) hx hb hts hinX4 hown hK hP 0 rfl rfl 16 (by decide) hf_32 (fun _ h9 => h9) rfl dX4_isRight_137 ?_
              refine lv_iconst (v := nI 0) hx hb dX4_isRight_140 (by decide) ?_
              refine hl_iald hx hb hK hP 7 0 rfl rfl (by omega) (by decide) dX4_isRight_141 ?_
              have hv_64 := htx 0
              refine hl_if_eq (tgt := 147) hx hb dX4_isRight_142 (by decide) (by omega) (fun c_65 => ?_) (fun c_65 => ?_)
              · refine lv_iload_n hx hb dX4_isRight_147 rfl (lv_at hl 2 rfl) ?_
                refine lv_iconst (v := nI 1) hx hb dX4_isRight_148 (by decide) ?_
                refine hl_icmp_eq (tgt := 172) hx hb dX4_isRight_149 (by decide) (by omega) (by omega) (fun c_66 => ?_) (fun c_66 => ?_)
                · refine lv_iconst (v := nI 1) hx hb dX4_isRight_172 (by decide) ?_
                  refine lv_goto (tgt := 177) hx hb dX4_isRight_173 (by decide) ?_
                  have hP9 : va_P (dC, dI) vwCl (vX4_isRight cA m0 m1 m2 m3 m4 m5 m6 m7 m8 m9 cd row sz1 nd tg st ln pa rd of ar dp at_ rs fd pl tx ou wr op on dn tag n ()) _ := hP
                  have hD9 : va_D A (vX4_isRight cA m0 m1 m2 m3 m4 m5 m6 m7 m8 m9 cd row sz1 nd tg st ln pa rd of ar dp at_ rs fd pl tx ou wr op on dn tag n ()) := hD
                  have hq9 : pX4_isRight m0 m1 m2 m3 m4 m5 m6 m7 m8 m9 cd row sz1 nd tg st ln pa rd of ar dp at_ rs fd pl tx ou wr op on dn tag n (nI 1) () := (if_pos (by unfold okC; rw [if_neg (by omega), if_neg (by omega), if_pos (by assumption)]; unfold okBits; rw [decide_eq_true_eq, Nat.zero_add]; first | omega | grind)).symm
                  exact W.zret (v := nI 1) hx hb hr rfl (fun t ht hW => ⟨⟨nI 1, (), rfl, hq9, by rw [ht]; exact hP9, va_K.moved hW.alike hK, hD9⟩, hS.F ht⟩) hS.2.2 dX4_isRight_177
                · refine lv_aload_n hx hb dX4_isRight_152 rfl (lv_at hl 0 rfl) ?_
                  refine va_get (D := (dC, dI)) (ci := 3) (v := .ref m7) (C := RX4) (T := TX4) (N := 22) hx hb hts hinX4 hown hK hP 0 rfl rfl 16 (by decide) hf_32 (fun _ h9 => h9) rfl dX4_isRight_153 ?_
                  refine lv_iload_n hx hb dX4_isRight_156 rfl (lv_at hl 2 rfl) ?_
                  refine lv_iconst (v := nI 1) hx hb dX4_isRight_157 (by decide) ?_
                  refine hl_isub hx hb (by omega) dX4_isRight_158 ?_
                  refine hl_iald hx hb hK hP 7 0 rfl rfl (by omega) (by decide) dX4_isRight_159 ?_
                  have hv_67 := htx (n - 1)
                  refine lv_iconst (v := nI 1) hx hb dX4_isRight_160 (by decide) ?_
                  refine lv_aload_n hx hb dX4_isRight_161 rfl (lv_at hl 0 rfl) ?_
                  refine va_get (D := (dC, dI)) (ci := 3) (v := .ref m7) (C := RX4) (T := TX4) (N := 22) hx hb hts hinX4 hown hK hP 0 rfl rfl 16 (by decide) hf_32 (fun _ h9 => h9) rfl dX4_isRight_162 ?_
                  refine lv_iconst (v := nI 0) hx hb dX4_isRight_165 (by decide) ?_
                  refine hl_iald hx hb hK hP 7 0 rfl rfl (by omega) (by decide) dX4_isRight_166 ?_
                  have hv_68 := htx 0
                  refine lv_ishl hx hb dX4_isRight_167 ?_
                  refine lv_irem hx hb dX4_isRight_168 (bits_ne0 _ (by omega)) ?_
                  refine lv_if_ne (tgt := 176) hx hb dX4_isRight_169 (by decide) (fun c_69 => ?_) (fun c_69 => ?_)
                  · have c_69 : ¬ tx (n - 1) % 2 ^ (tx 0) = 0 := fun h => c_69 ((bits_rem _ (by omega) _ (htx _)).mpr h)
                    refine lv_iconst (v := nI 0) hx hb dX4_isRight_176 (by decide) ?_
                    have hP9 : va_P (dC, dI) vwCl (vX4_isRight cA m0 m1 m2 m3 m4 m5 m6 m7 m8 m9 cd row sz1 nd tg st ln pa rd of ar dp at_ rs fd pl tx ou wr op on dn tag n ()) _ := hP
                    have hD9 : va_D A (vX4_isRight cA m0 m1 m2 m3 m4 m5 m6 m7 m8 m9 cd row sz1 nd tg st ln pa rd of ar dp at_ rs fd pl tx ou wr op on dn tag n ()) := hD
                    have hq9 : pX4_isRight m0 m1 m2 m3 m4 m5 m6 m7 m8 m9 cd row sz1 nd tg st ln pa rd of ar dp at_ rs fd pl tx ou wr op on dn tag n (nI 0) () := (if_neg (by unfold okC; rw [if_neg (by omega), if_neg (by omega), if_pos (by assumption)]; unfold okBits; rw [decide_eq_true_eq, Nat.zero_add]; first | omega | grind)).symm
                    exact W.zret (v := nI 0) hx hb hr rfl (fun t ht hW => ⟨⟨nI 0, (), rfl, hq9, by rw [ht]; exact hP9, va_K.moved hW.alike hK, hD9⟩, hS.F ht⟩) hS.2.2 dX4_isRight_177
                  · have c_69 := (bits_rem _ (by omega) _ (htx _)).mp c_69
                    refine lv_iconst (v := nI 1) hx hb dX4_isRight_172 (by decide) ?_
                    refine lv_goto (tgt := 177) hx hb dX4_isRight_173 (by decide) ?_
                    have hP9 : va_P (dC, dI) vwCl (vX4_isRight cA m0 m1 m2 m3 m4 m5 m6 m7 m8 m9 cd row sz1 nd tg st ln pa rd of ar dp at_ rs fd pl tx ou wr op on dn tag n ()) _ := hP
                    have hD9 : va_D A (vX4_isRight cA m0 m1 m2 m3 m4 m5 m6 m7 m8 m9 cd row sz1 nd tg st ln pa rd of ar dp at_ rs fd pl tx ou wr op on dn tag n ()) := hD
                    have hq9 : pX4_isRight m0 m1 m2 m3 m4 m5 m6 m7 m8 m9 cd row sz1 nd tg st ln pa rd of ar dp at_ rs fd pl tx ou wr op on dn tag n (nI 1) () := (if_pos (by unfold okC; rw [if_neg (by omega), if_neg (by omega), if_pos (by assumption)]; unfold okBits; rw [decide_eq_true_eq, Nat.zero_add]; first | omega | grind)).symm
                    exact W.zret (v := nI 1) hx hb hr rfl (fun t ht hW => ⟨⟨nI 1, (), rfl, hq9, by rw [ht]; exact hP9, va_K.moved hW.alike hK, hD9⟩, hS.F ht⟩) hS.2.2 dX4_isRight_177
              · refine lv_iconst (v := nI 0) hx hb dX4_isRight_145 (by decide) ?_
                have hP9 : va_P (dC, dI) vwCl (vX4_isRight cA m0 m1 m2 m3 m4 m5 m6 m7 m8 m9 cd row sz1 nd tg st ln pa rd of ar dp at_ rs fd pl tx ou wr op on dn tag n ()) _ := hP
                have hD9 : va_D A (vX4_isRight cA m0 m1 m2 m3 m4 m5 m6 m7 m8 m9 cd row sz1 nd tg st ln pa rd of ar dp at_ rs fd pl tx ou wr op on dn tag n ()) := hD
                have hq9 : pX4_isRight m0 m1 m2 m3 m4 m5 m6 m7 m8 m9 cd row sz1 nd tg st ln pa rd of ar dp at_ rs fd pl tx ou wr op on dn tag n (nI 0) () := (if_neg (by unfold okC; rw [if_neg (by omega), if_neg (by omega), if_pos (by assumption)]; unfold okBits; rw [decide_eq_true_eq, Nat.zero_add]; omega)).symm
                exact W.zret (v := nI 0) hx hb hr rfl (fun t ht hW => ⟨⟨nI 0, (), rfl, hq9, by rw [ht]; exact hP9, va_K.moved hW.alike hK, hD9⟩, hS.F ht⟩) hS.2.2 dX4_isRight_146
    · refine lv_iload_n hx hb dX4_isRight_42 rfl (lv_at hl 2 rfl) ?_
      refine lv_iconst (v := nI 1) hx hb dX4_isRight_43 (by decide) ?_
      refine hl_icmp_le (tgt := 95) hx hb dX4_isRight_44 (by decide) (by omega) (by omega) (fun c_70 => ?_) (fun c_70 => ?_)
      · refine lv_iconst (v := nI 0) hx hb dX4_isRight_95 (by decide) ?_
        refine lv_istore_n (lv' := [(3, .int (nI 0)), (0, .ref m0), (1, .int (nI tag)), (2, .int (nI n))]) hx hb dX4_isRight_96 rfl hl (by decide) rfl (fun ls hl => ?_)
        refine lv_iload_n hx hb dX4_isRight_97 rfl (lv_at hl 3 rfl) ?_
        refine hl_if_le (tgt := 109) hx hb dX4_isRight_98 (by decide) (by omega) (fun c_71 => ?_) (fun c_71 => ?_)
        · refine lv_iconst (v := nI 0) hx hb dX4_isRight_109 (by decide) ?_
          have hP9 : va_P (dC, dI) vwCl (vX4_isRight cA m0 m1 m2 m3 m4 m5 m6 m7 m8 m9 cd row sz1 nd tg st ln pa rd of ar dp at_ rs fd pl tx ou wr op on dn tag n ()) _ := hP
          have hD9 : va_D A (vX4_isRight cA m0 m1 m2 m3 m4 m5 m6 m7 m8 m9 cd row sz1 nd tg st ln pa rd of ar dp at_ rs fd pl tx ou wr op on dn tag n ()) := hD
          have hq9 : pX4_isRight m0 m1 m2 m3 m4 m5 m6 m7 m8 m9 cd row sz1 nd tg st ln pa rd of ar dp at_ rs fd pl tx ou wr op on dn tag n (nI 0) () := (if_neg (by unfold okC; rw [if_neg (by omega), if_pos (by assumption)]; unfold okInt; rw [decide_eq_true_eq, Nat.zero_add]; omega)).symm
          exact W.zret (v := nI 0) hx hb hr rfl (fun t ht hW => ⟨⟨nI 0, (), rfl, hq9, by rw [ht]; exact hP9, va_K.moved hW.alike hK, hD9⟩, hS.F ht⟩) hS.2.2 dX4_isRight_110
        · refine lv_iload_n hx hb dX4_isRight_101 rfl (lv_at hl 0 rfl) ?_
          refine hl_if_ne (tgt := 109) hx hb dX4_isRight_102 (by decide) (by omega) (fun c_72 => absurd c_72 (by decide)) (fun c_72 => ?_)
          refine lv_iconst (v := nI 1) hx hb dX4_isRight_105 (by decide) ?_
          refine lv_goto (tgt := 110) hx hb dX4_isRight_106 (by decide) ?_
          have hP9 : va_P (dC, dI) vwCl (vX4_isRight cA m0 m1 m2 m3 m4 m5 m6 m7 m8 m9 cd row sz1 nd tg st ln pa rd of ar dp at_ rs fd pl tx ou wr op on dn tag n ()) _ := hP
          have hD9 : va_D A (vX4_isRight cA m0 m1 m2 m3 m4 m5 m6 m7 m8 m9 cd row sz1 nd tg st ln pa rd of ar dp at_ rs fd pl tx ou wr op on dn tag n ()) := hD
          have hq9 : pX4_isRight m0 m1 m2 m3 m4 m5 m6 m7 m8 m9 cd row sz1 nd tg st ln pa rd of ar dp at_ rs fd pl tx ou wr op on dn tag n (nI 1) () := (if_pos (by unfold okC; rw [if_neg (by omega), if_pos (by assumption)]; unfold okInt; rw [decide_eq_true_eq, Nat.zero_add]; omega)).symm
          exact W.zret (v := nI 1) hx hb hr rfl (fun t ht hW => ⟨⟨nI 1, (), rfl, hq9, by rw [ht]; exact hP9, va_K.moved hW.alike hK, hD9⟩, hS.F ht⟩) hS.2.2 dX4_isRight_110
      · refine lv_aload_n hx hb dX4_isRight_47 rfl (lv_at hl 0 rfl) ?_
        refine va_get (D := (dC, dI)) (ci := 3) (v := .ref m7) (C := RX4) (T := TX4) (N := 22) hx hb hts hinX4 hown hK hP 0 rfl rfl 16 (by decide) hf_32 (fun _ h9 => h9) rfl dX4_isRight_48 ?_
        refine lv_iconst (v := nI 0) hx hb dX4_isRight_51 (by decide) ?_
        refine hl_iald hx hb hK hP 7 0 rfl rfl (by omega) (by decide) dX4_isRight_52 ?_
        have hv_73 := htx 0
        refine hl_if_ne (tgt := 68) hx hb dX4_isRight_53 (by decide) (by omega) (fun c_74 => ?_) (fun c_74 => ?_)
        · refine lv_aload_n hx hb dX4_isRight_68 rfl (lv_at hl 0 rfl) ?_
          refine va_get (D := (dC, dI)) (ci := 3) (v := .ref m7) (C := RX4) (T := TX4) (N := 22) hx hb hts hinX4 hown hK hP 0 rfl rfl 16 (by decide) hf_32 (fun _ h9 => h9) rfl dX4_isRight_69 ?_
          refine lv_iconst (v := nI 0) hx hb dX4_isRight_72 (by decide) ?_
          refine hl_iald hx hb hK hP 7 0 rfl rfl (by omega) (by decide) dX4_isRight_73 ?_
          have hv_75 := htx 0
          refine lv_sipush (v := nI 255) hx hb dX4_isRight_74 (by decide) ?_
          refine hl_icmp_ne (tgt := 95) hx hb dX4_isRight_77 (by decide) (by omega) (by omega) (fun c_76 => ?_) (fun c_76 => ?_)
          · refine lv_iconst (v := nI 0) hx hb dX4_isRight_95 (by decide) ?_
            refine lv_istore_n (lv' := [(3, .int (nI 0)), (0, .ref m0), (1, .int (nI tag)), (2, .int (nI n))]) hx hb dX4_isRight_96 rfl hl (by decide) rfl (fun ls hl => ?_)
            refine lv_iload_n hx hb dX4_isRight_97 rfl (lv_at hl 3 rfl) ?_
            refine hl_if_le (tgt := 109) hx hb dX4_isRight_98 (by decide) (by omega) (fun c_77 => ?_) (fun c_77 => ?_)
            · refine lv_iconst (v := nI 0) hx hb dX4_isRight_109 (by decide) ?_
              have hP9 : va_P (dC, dI) vwCl (vX4_isRight cA m0 m1 m2 m3 m4 m5 m6 m7 m8 m9 cd row sz1 nd tg st ln pa rd of ar dp at_ rs fd pl tx ou wr op on dn tag n ()) _ := hP
              have hD9 : va_D A (vX4_isRight cA m0 m1 m2 m3 m4 m5 m6 m7 m8 m9 cd row sz1 nd tg st ln pa rd of ar dp at_ rs fd pl tx ou wr op on dn tag n ()) := hD
              have hq9 : pX4_isRight m0 m1 m2 m3 m4 m5 m6 m7 m8 m9 cd row sz1 nd tg st ln pa rd of ar dp at_ rs fd pl tx ou wr op on dn tag n (nI 0) () := (if_neg (by unfold okC; rw [if_neg (by omega), if_pos (by assumption)]; unfold okInt; rw [decide_eq_true_eq, Nat.zero_add]; omega)).symm
              exact W.zret (v := nI 0) hx hb hr rfl (fun t ht hW => ⟨⟨nI 0, (), rfl, hq9, by rw [ht]; exact hP9, va_K.moved hW.alike hK, hD9⟩, hS.F ht⟩) hS.2.2 dX4_isRight_110
            · refine lv_iload_n hx hb dX4_isRight_101 rfl (lv_at hl 0 rfl) ?_
              refine hl_if_ne (tgt := 109) hx hb dX4_isRight_102 (by decide) (by omega) (fun c_78 => absurd c_78 (by decide)) (fun c_78 => ?_)
              refine lv_iconst (v := nI 1) hx hb dX4_isRight_105 (by decide) ?_
              refine lv_goto (tgt := 110) hx hb dX4_isRight_106 (by decide) ?_
              have hP9 : va_P (dC, dI) vwCl (vX4_isRight cA m0 m1 m2 m3 m4 m5 m6 m7 m8 m9 cd row sz1 nd tg st ln pa rd of ar dp at_ rs fd pl tx ou wr op on dn tag n ()) _ := hP
              have hD9 : va_D A (vX4_isRight cA m0 m1 m2 m3 m4 m5 m6 m7 m8 m9 cd row sz1 nd tg st ln pa rd of ar dp at_ rs fd pl tx ou wr op on dn tag n ()) := hD
              have hq9 : pX4_isRight m0 m1 m2 m3 m4 m5 m6 m7 m8 m9 cd row sz1 nd tg st ln pa rd of ar dp at_ rs fd pl tx ou wr op on dn tag n (nI 1) () := (if_pos (by unfold okC; rw [if_neg (by omega), if_pos (by assumption)]; unfold okInt; rw [decide_eq_true_eq, Nat.zero_add]; omega)).symm
              exact W.zret (v := nI 1) hx hb hr rfl (fun t ht hW => ⟨⟨nI 1, (), rfl, hq9, by rw [ht]; exact hP9, va_K.moved hW.alike hK, hD9⟩, hS.F ht⟩) hS.2.2 dX4_isRight_110
          · refine lv_aload_n hx hb dX4_isRight_80 rfl (lv_at hl 0 rfl) ?_
            refine va_get (D := (dC, dI)) (ci := 3) (v := .ref m7) (C := RX4) (T := TX4) (N := 22) hx hb hts hinX4 hown hK hP 0 rfl rfl 16 (by decide) hf_32 (fun _ h9 => h9) rfl dX4_isRight_81 ?_
            refine lv_iconst (v := nI 1) hx hb dX4_isRight_84 (by decide) ?_
            refine hl_iald hx hb hK hP 7 0 rfl rfl (by omega) (by decide) dX4_isRight_85 ?_
            have hv_79 := htx 1
            refine lv_bipush (v := nI 127) hx hb dX4_isRight_86 (by decide) ?_
            refine hl_icmp_le (tgt := 95) hx hb dX4_isRight_88 (by decide) (by omega) (by omega) (fun c_80 => ?_) (fun c_80 => ?_)
            · refine lv_iconst (v := nI 0) hx hb dX4_isRight_95 (by decide) ?_
              refine lv_istore_n (lv' := [(3, .int (nI 0)), (0, .ref m0), (1, .int (nI tag)), (2, .int (nI n))]) hx hb dX4_isRight_96 rfl hl (by decide) rfl (fun ls hl => ?_)
              refine lv_iload_n hx hb dX4_isRight_97 rfl (lv_at hl 3 rfl) ?_
              refine hl_if_le (tgt := 109) hx hb dX4_isRight_98 (by decide) (by omega) (fun c_81 => ?_) (fun c_81 => ?_)
              · refine lv_iconst (v := nI 0) hx hb dX4_isRight_109 (by decide) ?_
                have hP9 : va_P (dC, dI) vwCl (vX4_isRight cA m0 m1 m2 m3 m4 m5 m6 m7 m8 m9 cd row sz1 nd tg st ln pa rd of ar dp at_ rs fd pl tx ou wr op on dn tag n ()) _ := hP
                have hD9 : va_D A (vX4_isRight cA m0 m1 m2 m3 m4 m5 m6 m7 m8 m9 cd row sz1 nd tg st ln pa rd of ar dp at_ rs fd pl tx ou wr op on dn tag n ()) := hD
                have hq9 : pX4_isRight m0 m1 m2 m3 m4 m5 m6 m7 m8 m9 cd row sz1 nd tg st ln pa rd of ar dp at_ rs fd pl tx ou wr op on dn tag n (nI 0) () := (if_neg (by unfold okC; rw [if_neg (by omega), if_pos (by assumption)]; unfold okInt; rw [decide_eq_true_eq, Nat.zero_add]; omega)).symm
                exact W.zret (v := nI 0) hx hb hr rfl (fun t ht hW => ⟨⟨nI 0, (), rfl, hq9, by rw [ht]; exact hP9, va_K.moved hW.alike hK, hD9⟩, hS.F ht⟩) hS.2.2 dX4_isRight_110
              · refine lv_iload_n hx hb dX4_isRight_101 rfl (lv_at hl 0 rfl) ?_
                refine hl_if_ne (tgt := 109) hx hb dX4_isRight_102 (by decide) (by omega) (fun c_82 => absurd c_82 (by decide)) (fun c_82 => ?_)
                refine lv_iconst (v := nI 1) hx hb dX4_isRight_105 (by decide) ?_
                refine lv_goto (tgt := 110) hx hb dX4_isRight_106 (by decide) ?_
                have hP9 : va_P (dC, dI) vwCl (vX4_isRight cA m0 m1 m2 m3 m4 m5 m6 m7 m8 m9 cd row sz1 nd tg st ln pa rd of ar dp at_ rs fd pl tx ou wr op on dn tag n ()) _ := hP
                have hD9 : va_D A (vX4_isRight cA m0 m1 m2 m3 m4 m5 m6 m7 m8 m9 cd row sz1 nd tg st ln pa rd of ar dp at_ rs fd pl tx ou wr op on dn tag n ()) := hD
                have hq9 : pX4_isRight m0 m1 m2 m3 m4 m5 m6 m7 m8 m9 cd row sz1 nd tg st ln pa rd of ar dp at_ rs fd pl tx ou wr op on dn tag n (nI 1) () := (if_pos (by unfold okC; rw [if_neg (by omega), if_pos (by assumption)]; unfold okInt; rw [decide_eq_true_eq, Nat.zero_add]; omega)).symm
                exact W.zret (v := nI 1) hx hb hr rfl (fun t ht hW => ⟨⟨nI 1, (), rfl, hq9, by rw [ht]; exact hP9, va_K.moved hW.alike hK, hD9⟩, hS.F ht⟩) hS.2.2 dX4_isRight_110
            · refine lv_iconst (v := nI 1) hx hb dX4_isRight_91 (by decide) ?_
              refine lv_goto (tgt := 96) hx hb dX4_isRight_92 (by decide) ?_
              refine lv_istore_n (lv' := [(3, .int (nI 1)), (0, .ref m0), (1, .int (nI tag)), (2, .int (nI n))]) hx hb dX4_isRight_96 rfl hl (by decide) rfl (fun ls hl => ?_)
              refine lv_iload_n hx hb dX4_isRight_97 rfl (lv_at hl 3 rfl) ?_
              refine hl_if_le (tgt := 109) hx hb dX4_isRight_98 (by decide) (by omega) (fun c_83 => ?_) (fun c_83 => ?_)
              · refine lv_iconst (v := nI 0) hx hb dX4_isRight_109 (by decide) ?_
                have hP9 : va_P (dC, dI) vwCl (vX4_isRight cA m0 m1 m2 m3 m4 m5 m6 m7 m8 m9 cd row sz1 nd tg st ln pa rd of ar dp at_ rs fd pl tx ou wr op on dn tag n ()) _ := hP
                have hD9 : va_D A (vX4_isRight cA m0 m1 m2 m3 m4 m5 m6 m7 m8 m9 cd row sz1 nd tg st ln pa rd of ar dp at_ rs fd pl tx ou wr op on dn tag n ()) := hD
                have hq9 : pX4_isRight m0 m1 m2 m3 m4 m5 m6 m7 m8 m9 cd row sz1 nd tg st ln pa rd of ar dp at_ rs fd pl tx ou wr op on dn tag n (nI 0) () := (if_neg (by unfold okC; rw [if_neg (by omega), if_pos (by assumption)]; unfold okInt; rw [decide_eq_true_eq, Nat.zero_add]; omega)).symm
                exact W.zret (v := nI 0) hx hb hr rfl (fun t ht hW => ⟨⟨nI 0, (), rfl, hq9, by rw [ht]; exact hP9, va_K.moved hW.alike hK, hD9⟩, hS.F ht⟩) hS.2.2 dX4_isRight_110
              · refine lv_iload_n hx hb dX4_isRight_101 rfl (lv_at hl 0 rfl) ?_
                refine hl_if_ne (tgt := 109) hx hb dX4_isRight_102 (by decide) (by omega) (fun c_84 => ?_) (fun c_84 => absurd c_84 (by decide))
                refine lv_iconst (v := nI 0) hx hb dX4_isRight_109 (by decide) ?_
                have hP9 : va_P (dC, dI) vwCl (vX4_isRight cA m0 m1 m2 m3 m4 m5 m6 m7 m8 m9 cd row sz1 nd tg st ln pa rd of ar dp at_ rs fd pl tx ou wr op on dn tag n ()) _ := hP
                have hD9 : va_D A (vX4_isRight cA m0 m1 m2 m3 m4 m5 m6 m7 m8 m9 cd row sz1 nd tg st ln pa rd of ar dp at_ rs fd pl tx ou wr op on dn tag n ()) := hD
                have hq9 : pX4_isRight m0 m1 m2 m3 m4 m5 m6 m7 m8 m9 cd row sz1 nd tg st ln pa rd of ar dp at_ rs fd pl tx ou wr op on dn tag n (nI 0) () := (if_neg (by unfold okC; rw [if_neg (by omega), if_pos (by assumption)]; unfold okInt; rw [decide_eq_true_eq, Nat.zero_add]; omega)).symm
                exact W.zret (v := nI 0) hx hb hr rfl (fun t ht hW => ⟨⟨nI 0, (), rfl, hq9, by rw [ht]; exact hP9, va_K.moved hW.alike hK, hD9⟩, hS.F ht⟩) hS.2.2 dX4_isRight_110
        · refine lv_aload_n hx hb dX4_isRight_56 rfl (lv_at hl 0 rfl) ?_
          refine va_get (D := (dC, dI)) (ci := 3) (v := .ref m7) (C := RX4) (T := TX4) (N := 22) hx hb hts hinX4 hown hK hP 0 rfl rfl 16 (by decide) hf_32 (fun _ h9 => h9) rfl dX4_isRight_57 ?_
          refine lv_iconst (v := nI 1) hx hb dX4_isRight_60 (by decide) ?_
          refine hl_iald hx hb hK hP 7 0 rfl rfl (by omega) (by decide) dX4_isRight_61 ?_
          have hv_85 := htx 1
          refine lv_sipush (v := nI 128) hx hb dX4_isRight_62 (by decide) ?_
          refine hl_icmp_lt (tgt := 91) hx hb dX4_isRight_65 (by decide) (by omega) (by omega) (fun c_86 => ?_) (fun c_86 => ?_)
          · refine lv_iconst (v := nI 1) hx hb dX4_isRight_91 (by decide) ?_
            refine lv_goto (tgt := 96) hx hb dX4_isRight_92 (by decide) ?_
            refine lv_istore_n (lv' := [(3, .int (nI 1)), (0, .ref m0), (1, .int (nI tag)), (2, .int (nI n))]) hx hb dX4_isRight_96 rfl hl (by decide) rfl (fun ls hl => ?_)
            refine lv_iload_n hx hb dX4_isRight_97 rfl (lv_at hl 3 rfl) ?_
            refine hl_if_le (tgt := 109) hx hb dX4_isRight_98 (by decide) (by omega) (fun c_87 => ?_) (fun c_87 => ?_)
            · refine lv_iconst (v := nI 0) hx hb dX4_isRight_109 (by decide) ?_
              have hP9 : va_P (dC, dI) vwCl (vX4_isRight cA m0 m1 m2 m3 m4 m5 m6 m7 m8 m9 cd row sz1 nd tg st ln pa rd of ar dp at_ rs fd pl tx ou wr op on dn tag n ()) _ := hP
              have hD9 : va_D A (vX4_isRight cA m0 m1 m2 m3 m4 m5 m6 m7 m8 m9 cd row sz1 nd tg st ln pa rd of ar dp at_ rs fd pl tx ou wr op on dn tag n ()) := hD
              have hq9 : pX4_isRight m0 m1 m2 m3 m4 m5 m6 m7 m8 m9 cd row sz1 nd tg st ln pa rd of ar dp at_ rs fd pl tx ou wr op on dn tag n (nI 0) () := (if_neg (by unfold okC; rw [if_neg (by omega), if_pos (by assumption)]; unfold okInt; rw [decide_eq_true_eq, Nat.zero_add]; omega)).symm
              exact W.zret (v := nI 0) hx hb hr rfl (fun t ht hW => ⟨⟨nI 0, (), rfl, hq9, by rw [ht]; exact hP9, va_K.moved hW.alike hK, hD9⟩, hS.F ht⟩) hS.2.2 dX4_isRight_110
            · refine lv_iload_n hx hb dX4_isRight_101 rfl (lv_at hl 0 rfl) ?_
              refine hl_if_ne (tgt := 109) hx hb dX4_isRight_102 (by decide) (by omega) (fun c_88 => ?_) (fun c_88 => absurd c_88 (by decide))
              refine lv_iconst (v := nI 0) hx hb dX4_isRight_109 (by decide) ?_
              have hP9 : va_P (dC, dI) vwCl (vX4_isRight cA m0 m1 m2 m3 m4 m5 m6 m7 m8 m9 cd row sz1 nd tg st ln pa rd of ar dp at_ rs fd pl tx ou wr op on dn tag n ()) _ := hP
              have hD9 : va_D A (vX4_isRight cA m0 m1 m2 m3 m4 m5 m6 m7 m8 m9 cd row sz1 nd tg st ln pa rd of ar dp at_ rs fd pl tx ou wr op on dn tag n ()) := hD
              have hq9 : pX4_isRight m0 m1 m2 m3 m4 m5 m6 m7 m8 m9 cd row sz1 nd tg st ln pa rd of ar dp at_ rs fd pl tx ou wr op on dn tag n (nI 0) () := (if_neg (by unfold okC; rw [if_neg (by omega), if_pos (by assumption)]; unfold okInt; rw [decide_eq_true_eq, Nat.zero_add]; omega)).symm
              exact W.zret (v := nI 0) hx hb hr rfl (fun t ht hW => ⟨⟨nI 0, (), rfl, hq9, by rw [ht]; exact hP9, va_K.moved hW.alike hK, hD9⟩, hS.F ht⟩) hS.2.2 dX4_isRight_110
          · refine lv_aload_n hx hb dX4_isRight_68 rfl (lv_at hl 0 rfl) ?_
            refine va_get (D := (dC, dI)) (ci := 3) (v := .ref m7) (C := RX4) (T := TX4) (N := 22) hx hb hts hinX4 hown hK hP 0 rfl rfl 16 (by decide) hf_32 (fun _ h9 => h9) rfl dX4_isRight_69 ?_
            refine lv_iconst (v := nI 0) hx hb dX4_isRight_72 (by decide) ?_
            refine hl_iald hx hb hK hP 7 0 rfl rfl (by omega) (by decide) dX4_isRight_73 ?_
            have hv_89 := htx 0
            refine lv_sipush (v := nI 255) hx hb dX4_isRight_74 (by decide) ?_
            refine hl_icmp_ne (tgt := 95) hx hb dX4_isRight_77 (by decide) (by omega) (by omega) (fun c_90 => ?_) (fun c_90 => ?_)
            · refine lv_iconst (v := nI 0) hx hb dX4_isRight_95 (by decide) ?_
              refine lv_istore_n (lv' := [(3, .int (nI 0)), (0, .ref m0), (1, .int (nI tag)), (2, .int (nI n))]) hx hb dX4_isRight_96 rfl hl (by decide) rfl (fun ls hl => ?_)
              refine lv_iload_n hx hb dX4_isRight_97 rfl (lv_at hl 3 rfl) ?_
              refine hl_if_le (tgt := 109) hx hb dX4_isRight_98 (by decide) (by omega) (fun c_91 => ?_) (fun c_91 => ?_)
              · refine lv_iconst (v := nI 0) hx hb dX4_isRight_109 (by decide) ?_
                have hP9 : va_P (dC, dI) vwCl (vX4_isRight cA m0 m1 m2 m3 m4 m5 m6 m7 m8 m9 cd row sz1 nd tg st ln pa rd of ar dp at_ rs fd pl tx ou wr op on dn tag n ()) _ := hP
                have hD9 : va_D A (vX4_isRight cA m0 m1 m2 m3 m4 m5 m6 m7 m8 m9 cd row sz1 nd tg st ln pa rd of ar dp at_ rs fd pl tx ou wr op on dn tag n ()) := hD
                have hq9 : pX4_isRight m0 m1 m2 m3 m4 m5 m6 m7 m8 m9 cd row sz1 nd tg st ln pa rd of ar dp at_ rs fd pl tx ou wr op on dn tag n (nI 0) () := (if_neg (by unfold okC; rw [if_neg (by omega), if_pos (by assumption)]; unfold okInt; rw [decide_eq_true_eq, Nat.zero_add]; omega)).symm
                exact W.zret (v := nI 0) hx hb hr rfl (fun t ht hW => ⟨⟨nI 0, (), rfl, hq9, by rw [ht]; exact hP9, va_K.moved hW.alike hK, hD9⟩, hS.F ht⟩) hS.2.2 dX4_isRight_110
              · refine lv_iload_n hx hb dX4_isRight_101 rfl (lv_at hl 0 rfl) ?_
                refine hl_if_ne (tgt := 109) hx hb dX4_isRight_102 (by decide) (by omega) (fun c_92 => absurd c_92 (by decide)) (fun c_92 => ?_)
                refine lv_iconst (v := nI 1) hx hb dX4_isRight_105 (by decide) ?_
                refine lv_goto (tgt := 110) hx hb dX4_isRight_106 (by decide) ?_
                have hP9 : va_P (dC, dI) vwCl (vX4_isRight cA m0 m1 m2 m3 m4 m5 m6 m7 m8 m9 cd row sz1 nd tg st ln pa rd of ar dp at_ rs fd pl tx ou wr op on dn tag n ()) _ := hP
                have hD9 : va_D A (vX4_isRight cA m0 m1 m2 m3 m4 m5 m6 m7 m8 m9 cd row sz1 nd tg st ln pa rd of ar dp at_ rs fd pl tx ou wr op on dn tag n ()) := hD
                have hq9 : pX4_isRight m0 m1 m2 m3 m4 m5 m6 m7 m8 m9 cd row sz1 nd tg st ln pa rd of ar dp at_ rs fd pl tx ou wr op on dn tag n (nI 1) () := (if_pos (by unfold okC; rw [if_neg (by omega), if_pos (by assumption)]; unfold okInt; rw [decide_eq_true_eq, Nat.zero_add]; omega)).symm
                exact W.zret (v := nI 1) hx hb hr rfl (fun t ht hW => ⟨⟨nI 1, (), rfl, hq9, by rw [ht]; exact hP9, va_K.moved hW.alike hK, hD9⟩, hS.F ht⟩) hS.2.2 dX4_isRight_110
            · refine lv_aload_n hx hb dX4_isRight_80 rfl (lv_at hl 0 rfl) ?_
              refine va_get (D := (dC, dI)) (ci := 3) (v := .ref m7) (C := RX4) (T := TX4) (N := 22) hx hb hts hinX4 hown hK hP 0 rfl rfl 16 (by decide) hf_32 (fun _ h9 => h9) rfl dX4_isRight_81 ?_
              refine lv_iconst (v := nI 1) hx hb dX4_isRight_84 (by decide) ?_
              refine hl_iald hx hb hK hP 7 0 rfl rfl (by omega) (by decide) dX4_isRight_85 ?_
              have hv_93 := htx 1
              refine lv_bipush (v := nI 127) hx hb dX4_isRight_86 (by decide) ?_
              refine hl_icmp_le (tgt := 95) hx hb dX4_isRight_88 (by decide) (by omega) (by omega) (fun c_94 => ?_) (fun c_94 => ?_)
              · refine lv_iconst (v := nI 0) hx hb dX4_isRight_95 (by decide) ?_
                refine lv_istore_n (lv' := [(3, .int (nI 0)), (0, .ref m0), (1, .int (nI tag)), (2, .int (nI n))]) hx hb dX4_isRight_96 rfl hl (by decide) rfl (fun ls hl => ?_)
                refine lv_iload_n hx hb dX4_isRight_97 rfl (lv_at hl 3 rfl) ?_
                refine hl_if_le (tgt := 109) hx hb dX4_isRight_98 (by decide) (by omega) (fun c_95 => ?_) (fun c_95 => ?_)
                · refine lv_iconst (v := nI 0) hx hb dX4_isRight_109 (by decide) ?_
                  have hP9 : va_P (dC, dI) vwCl (vX4_isRight cA m0 m1 m2 m3 m4 m5 m6 m7 m8 m9 cd row sz1 nd tg st ln pa rd of ar dp at_ rs fd pl tx ou wr op on dn tag n ()) _ := hP
                  have hD9 : va_D A (vX4_isRight cA m0 m1 m2 m3 m4 m5 m6 m7 m8 m9 cd row sz1 nd tg st ln pa rd of ar dp at_ rs fd pl tx ou wr op on dn tag n ()) := hD
                  have hq9 : pX4_isRight m0 m1 m2 m3 m4 m5 m6 m7 m8 m9 cd row sz1 nd tg st ln pa rd of ar dp at_ rs fd pl tx ou wr op on dn tag n (nI 0) () := (if_neg (by unfold okC; rw [if_neg (by omega), if_pos (by assumption)]; unfold okInt; rw [decide_eq_true_eq, Nat.zero_add]; omega)).symm
                  exact W.zret (v := nI 0) hx hb hr rfl (fun t ht hW => ⟨⟨nI 0, (), rfl, hq9, by rw [ht]; exact hP9, va_K.moved hW.alike hK, hD9⟩, hS.F ht⟩) hS.2.2 dX4_isRight_110
                · refine lv_iload_n hx hb dX4_isRight_101 rfl (lv_at hl 0 rfl) ?_
                  refine hl_if_ne (tgt := 109) hx hb dX4_isRight_102 (by decide) (by omega) (fun c_96 => absurd c_96 (by decide)) (fun c_96 => ?_)
                  refine lv_iconst (v := nI 1) hx hb dX4_isRight_105 (by decide) ?_
                  refine lv_goto (tgt := 110) hx hb dX4_isRight_106 (by decide) ?_
                  have hP9 : va_P (dC, dI) vwCl (vX4_isRight cA m0 m1 m2 m3 m4 m5 m6 m7 m8 m9 cd row sz1 nd tg st ln pa rd of ar dp at_ rs fd pl tx ou wr op on dn tag n ()) _ := hP
                  have hD9 : va_D A (vX4_isRight cA m0 m1 m2 m3 m4 m5 m6 m7 m8 m9 cd row sz1 nd tg st ln pa rd of ar dp at_ rs fd pl tx ou wr op on dn tag n ()) := hD
                  have hq9 : pX4_isRight m0 m1 m2 m3 m4 m5 m6 m7 m8 m9 cd row sz1 nd tg st ln pa rd of ar dp at_ rs fd pl tx ou wr op on dn tag n (nI 1) () := (if_pos (by unfold okC; rw [if_neg (by omega), if_pos (by assumption)]; unfold okInt; rw [decide_eq_true_eq, Nat.zero_add]; omega)).symm
                  exact W.zret (v := nI 1) hx hb hr rfl (fun t ht hW => ⟨⟨nI 1, (), rfl, hq9, by rw [ht]; exact hP9, va_K.moved hW.alike hK, hD9⟩, hS.F ht⟩) hS.2.2 dX4_isRight_110
              · refine lv_iconst (v := nI 1) hx hb dX4_isRight_91 (by decide) ?_
                refine lv_goto (tgt := 96) hx hb dX4_isRight_92 (by decide) ?_
                refine lv_istore_n (lv' := [(3, .int (nI 1)), (0, .ref m0), (1, .int (nI tag)), (2, .int (nI n))]) hx hb dX4_isRight_96 rfl hl (by decide) rfl (fun ls hl => ?_)
                refine lv_iload_n hx hb dX4_isRight_97 rfl (lv_at hl 3 rfl) ?_
                refine hl_if_le (tgt := 109) hx hb dX4_isRight_98 (by decide) (by omega) (fun c_97 => ?_) (fun c_97 => ?_)
                · refine lv_iconst (v := nI 0) hx hb dX4_isRight_109 (by decide) ?_
                  have hP9 : va_P (dC, dI) vwCl (vX4_isRight cA m0 m1 m2 m3 m4 m5 m6 m7 m8 m9 cd row sz1 nd tg st ln pa rd of ar dp at_ rs fd pl tx ou wr op on dn tag n ()) _ := hP
                  have hD9 : va_D A (vX4_isRight cA m0 m1 m2 m3 m4 m5 m6 m7 m8 m9 cd row sz1 nd tg st ln pa rd of ar dp at_ rs fd pl tx ou wr op on dn tag n ()) := hD
                  have hq9 : pX4_isRight m0 m1 m2 m3 m4 m5 m6 m7 m8 m9 cd row sz1 nd tg st ln pa rd of ar dp at_ rs fd pl tx ou wr op on dn tag n (nI 0) () := (if_neg (by unfold okC; rw [if_neg (by omega), if_pos (by assumption)]; unfold okInt; rw [decide_eq_true_eq, Nat.zero_add]; omega)).symm
                  exact W.zret (v := nI 0) hx hb hr rfl (fun t ht hW => ⟨⟨nI 0, (), rfl, hq9, by rw [ht]; exact hP9, va_K.moved hW.alike hK, hD9⟩, hS.F ht⟩) hS.2.2 dX4_isRight_110
                · refine lv_iload_n hx hb dX4_isRight_101 rfl (lv_at hl 0 rfl) ?_
                  refine hl_if_ne (tgt := 109) hx hb dX4_isRight_102 (by decide) (by omega) (fun c_98 => ?_) (fun c_98 => absurd c_98 (by decide))
                  refine lv_iconst (v := nI 0) hx hb dX4_isRight_109 (by decide) ?_
                  have hP9 : va_P (dC, dI) vwCl (vX4_isRight cA m0 m1 m2 m3 m4 m5 m6 m7 m8 m9 cd row sz1 nd tg st ln pa rd of ar dp at_ rs fd pl tx ou wr op on dn tag n ()) _ := hP
                  have hD9 : va_D A (vX4_isRight cA m0 m1 m2 m3 m4 m5 m6 m7 m8 m9 cd row sz1 nd tg st ln pa rd of ar dp at_ rs fd pl tx ou wr op on dn tag n ()) := hD
                  have hq9 : pX4_isRight m0 m1 m2 m3 m4 m5 m6 m7 m8 m9 cd row sz1 nd tg st ln pa rd of ar dp at_ rs fd pl tx ou wr op on dn tag n (nI 0) () := (if_neg (by unfold okC; rw [if_neg (by omega), if_pos (by assumption)]; unfold okInt; rw [decide_eq_true_eq, Nat.zero_add]; omega)).symm
                  exact W.zret (v := nI 0) hx hb hr rfl (fun t ht hW => ⟨⟨nI 0, (), rfl, hq9, by rw [ht]; exact hP9, va_K.moved hW.alike hK, hD9⟩, hS.F ht⟩) hS.2.2 dX4_isRight_110
  · refine lv_iload_n hx hb dX4_isRight_5 rfl (lv_at hl 2 rfl) ?_
    refine lv_iconst (v := nI 1) hx hb dX4_isRight_6 (by decide) ?_
    refine hl_icmp_ne (tgt := 35) hx hb dX4_isRight_7 (by decide) (by omega) (by omega) (fun c_99 => ?_) (fun c_99 => ?_)
    · refine lv_iconst (v := nI 0) hx hb dX4_isRight_35 (by decide) ?_
      have hP9 : va_P (dC, dI) vwCl (vX4_isRight cA m0 m1 m2 m3 m4 m5 m6 m7 m8 m9 cd row sz1 nd tg st ln pa rd of ar dp at_ rs fd pl tx ou wr op on dn tag n ()) _ := hP
      have hD9 : va_D A (vX4_isRight cA m0 m1 m2 m3 m4 m5 m6 m7 m8 m9 cd row sz1 nd tg st ln pa rd of ar dp at_ rs fd pl tx ou wr op on dn tag n ()) := hD
      have hq9 : pX4_isRight m0 m1 m2 m3 m4 m5 m6 m7 m8 m9 cd row sz1 nd tg st ln pa rd of ar dp at_ rs fd pl tx ou wr op on dn tag n (nI 0) () := (if_neg (by unfold okC; rw [if_pos (by assumption)]; unfold okBool; rw [decide_eq_true_eq]; omega)).symm
      exact W.zret (v := nI 0) hx hb hr rfl (fun t ht hW => ⟨⟨nI 0, (), rfl, hq9, by rw [ht]; exact hP9, va_K.moved hW.alike hK, hD9⟩, hS.F ht⟩) hS.2.2 dX4_isRight_36
    · refine lv_aload_n hx hb dX4_isRight_10 rfl (lv_at hl 0 rfl) ?_
      refine va_get (D := (dC, dI)) (ci := 3) (v := .ref m7) (C := RX4) (T := TX4) (N := 22) hx hb hts hinX4 hown hK hP 0 rfl rfl 16 (by decide) hf_32 (fun _ h9 => h9) rfl dX4_isRight_11 ?_
      refine lv_iconst (v := nI 0) hx hb dX4_isRight_14 (by decide) ?_
      refine hl_iald hx hb hK hP 7 0 rfl rfl (by omega) (by decide) dX4_isRight_15 ?_
      have hv_100 := htx 0
      refine hl_if_eq (tgt := 31) hx hb dX4_isRight_16 (by decide) (by omega) (fun c_101 => ?_) (fun c_101 => ?_)
      · refine lv_iconst (v := nI 1) hx hb dX4_isRight_31 (by decide) ?_
        refine lv_goto (tgt := 36) hx hb dX4_isRight_32 (by decide) ?_
        have hP9 : va_P (dC, dI) vwCl (vX4_isRight cA m0 m1 m2 m3 m4 m5 m6 m7 m8 m9 cd row sz1 nd tg st ln pa rd of ar dp at_ rs fd pl tx ou wr op on dn tag n ()) _ := hP
        have hD9 : va_D A (vX4_isRight cA m0 m1 m2 m3 m4 m5 m6 m7 m8 m9 cd row sz1 nd tg st ln pa rd of ar dp at_ rs fd pl tx ou wr op on dn tag n ()) := hD
        have hq9 : pX4_isRight m0 m1 m2 m3 m4 m5 m6 m7 m8 m9 cd row sz1 nd tg st ln pa rd of ar dp at_ rs fd pl tx ou wr op on dn tag n (nI 1) () := (if_pos (by unfold okC; rw [if_pos (by assumption)]; unfold okBool; rw [decide_eq_true_eq]; omega)).symm
        exact W.zret (v := nI 1) hx hb hr rfl (fun t ht hW => ⟨⟨nI 1, (), rfl, hq9, by rw [ht]; exact hP9, va_K.moved hW.alike hK, hD9⟩, hS.F ht⟩) hS.2.2 dX4_isRight_36
      · refine lv_aload_n hx hb dX4_isRight_19 rfl (lv_at hl 0 rfl) ?_
        refine va_get (D := (dC, dI)) (ci := 3) (v := .ref m7) (C := RX4) (T := TX4) (N := 22) hx hb hts hinX4 hown hK hP 0 rfl rfl 16 (by decide) hf_32 (fun _ h9 => h9) rfl dX4_isRight_20 ?_
        refine lv_iconst (v := nI 0) hx hb dX4_isRight_23 (by decide) ?_
        refine hl_iald hx hb hK hP 7 0 rfl rfl (by omega) (by decide) dX4_isRight_24 ?_
        have hv_102 := htx 0
        refine lv_sipush (v := nI 255) hx hb dX4_isRight_25 (by decide) ?_
        refine hl_icmp_ne (tgt := 35) hx hb dX4_isRight_28 (by decide) (by omega) (by omega) (fun c_103 => ?_) (fun c_103 => ?_)
        · refine lv_iconst (v := nI 0) hx hb dX4_isRight_35 (by decide) ?_
          have hP9 : va_P (dC, dI) vwCl (vX4_isRight cA m0 m1 m2 m3 m4 m5 m6 m7 m8 m9 cd row sz1 nd tg st ln pa rd of ar dp at_ rs fd pl tx ou wr op on dn tag n ()) _ := hP
          have hD9 : va_D A (vX4_isRight cA m0 m1 m2 m3 m4 m5 m6 m7 m8 m9 cd row sz1 nd tg st ln pa rd of ar dp at_ rs fd pl tx ou wr op on dn tag n ()) := hD
          have hq9 : pX4_isRight m0 m1 m2 m3 m4 m5 m6 m7 m8 m9 cd row sz1 nd tg st ln pa rd of ar dp at_ rs fd pl tx ou wr op on dn tag n (nI 0) () := (if_neg (by unfold okC; rw [if_pos (by assumption)]; unfold okBool; rw [decide_eq_true_eq]; omega)).symm
          exact W.zret (v := nI 0) hx hb hr rfl (fun t ht hW => ⟨⟨nI 0, (), rfl, hq9, by rw [ht]; exact hP9, va_K.moved hW.alike hK, hD9⟩, hS.F ht⟩) hS.2.2 dX4_isRight_36
        · refine lv_iconst (v := nI 1) hx hb dX4_isRight_31 (by decide) ?_
          refine lv_goto (tgt := 36) hx hb dX4_isRight_32 (by decide) ?_
          have hP9 : va_P (dC, dI) vwCl (vX4_isRight cA m0 m1 m2 m3 m4 m5 m6 m7 m8 m9 cd row sz1 nd tg st ln pa rd of ar dp at_ rs fd pl tx ou wr op on dn tag n ()) _ := hP
          have hD9 : va_D A (vX4_isRight cA m0 m1 m2 m3 m4 m5 m6 m7 m8 m9 cd row sz1 nd tg st ln pa rd of ar dp at_ rs fd pl tx ou wr op on dn tag n ()) := hD
          have hq9 : pX4_isRight m0 m1 m2 m3 m4 m5 m6 m7 m8 m9 cd row sz1 nd tg st ln pa rd of ar dp at_ rs fd pl tx ou wr op on dn tag n (nI 1) () := (if_pos (by unfold okC; rw [if_pos (by assumption)]; unfold okBool; rw [decide_eq_true_eq]; omega)).symm
          exact W.zret (v := nI 1) hx hb hr rfl (fun t ht hW => ⟨⟨nI 1, (), rfl, hq9, by rw [ht]; exact hP9, va_K.moved hW.alike hK, hD9⟩, hS.F ht⟩) hS.2.2 dX4_isRight_36
abbrev pX4_isMissing (m0 : Nat) (m1 : Nat) (m2 : Nat) (m3 : Nat) (m4 : Nat) (m5 : Nat) (m6 : Nat) (m7 : Nat) (m8 : Nat) (m9 : Nat) (cd : Int32) (row : Nat → Nat) (sz1 : Nat) (nd : Nat) (tg : Nat → Nat) (st : Nat → Nat) (ln : Nat → Nat) (pa : Nat → Int32) (rd : Nat) (of : Int32) (ar : Nat → Nat) (dp : Nat) (at_ : Nat) (rs : Int32) (fd : Nat) (pl : Int32) (tx : Nat → Nat) (ou : Nat → Nat) (wr : Nat) (op : Nat → Nat) (on : Nat) (dn : Nat) (kk : Nat) (id : Nat) : Int32 → Int32 × Int32 → Prop := fun (r : Int32) (u : Int32 × Int32) => match u with | (rs2, pl2) => (¬ limN sz1 dp ar st ln ≤ kk ∧ r = nI 0 ∧ rs2 = rs ∧ pl2 = pl) ∨ (limN sz1 dp ar st ln ≤ kk ∧ r = nI 1 ∧ (rs2, pl2) = cutE dp sz1 id)
abbrev vX4_isMissing (cA : ClassId) (m0 : Nat) (m1 : Nat) (m2 : Nat) (m3 : Nat) (m4 : Nat) (m5 : Nat) (m6 : Nat) (m7 : Nat) (m8 : Nat) (m9 : Nat) (cd : Int32) (row : Nat → Nat) (sz1 : Nat) (nd : Nat) (tg : Nat → Nat) (st : Nat → Nat) (ln : Nat → Nat) (pa : Nat → Int32) (rd : Nat) (of : Int32) (ar : Nat → Nat) (dp : Nat) (at_ : Nat) (rs : Int32) (fd : Nat) (pl : Int32) (tx : Nat → Nat) (ou : Nat → Nat) (wr : Nat) (op : Nat → Nat) (on : Nat) (dn : Nat) (kk : Nat) (id : Nat) : Int32 × Int32 → va_W := fun (u : Int32 × Int32) => match u with | (rs2, pl2) => wM cA m0 m1 m2 m3 m4 m5 m6 m7 m8 m9 cd row sz1 nd tg st ln pa rd of ar dp at_ rs2 fd pl2 tx ou wr op on dn
abbrev qX4_isMissing (dC : Nat → ClassId) (dI : Nat → Nat → Nat) (cA : ClassId) (A : Nat → Prop) (m0 : Nat) (m1 : Nat) (m2 : Nat) (m3 : Nat) (m4 : Nat) (m5 : Nat) (m6 : Nat) (m7 : Nat) (m8 : Nat) (m9 : Nat) (cd : Int32) (row : Nat → Nat) (sz1 : Nat) (nd : Nat) (tg : Nat → Nat) (st : Nat → Nat) (ln : Nat → Nat) (pa : Nat → Int32) (rd : Nat) (of : Int32) (ar : Nat → Nat) (dp : Nat) (at_ : Nat) (rs : Int32) (fd : Nat) (pl : Int32) (tx : Nat → Nat) (ou : Nat → Nat) (wr : Nat) (op : Nat → Nat) (on : Nat) (dn : Nat) (kk : Nat) (id : Nat) : Array Value → State → Outcome → State → Prop := va_Qi (pX4_isMissing m0 m1 m2 m3 m4 m5 m6 m7 m8 m9 cd row sz1 nd tg st ln pa rd of ar dp at_ rs fd pl tx ou wr op on dn kk id) (fun u => cAft dC dI cA A (vX4_isMissing cA m0 m1 m2 m3 m4 m5 m6 m7 m8 m9 cd row sz1 nd tg st ln pa rd of ar dp at_ rs fd pl tx ou wr op on dn kk id u)) A
set_option maxHeartbeats 4000000 in
set_option maxRecDepth 100000 in
theorem k_X4_isMissing (l : Launch) (dC : Nat → ClassId) (dI : Nat → Nat → Nat) (cA : ClassId) (m0 : Nat) (m1 : Nat) (m2 : Nat) (m3 : Nat) (m4 : Nat) (m5 : Nat) (m6 : Nat) (m7 : Nat) (m8 : Nat) (m9 : Nat) (cd : Int32) (row : Nat → Nat) (sz1 : Nat) (nd : Nat) (tg : Nat → Nat) (st : Nat → Nat) (ln : Nat → Nat) (pa : Nat → Int32) (rd : Nat) (of : Int32) (ar : Nat → Nat) (dp : Nat) (at_ : Nat) (rs : Int32) (fd : Nat) (pl : Int32) (tx : Nat → Nat) (ou : Nat → Nat) (wr : Nat) (op : Nat → Nat) (on : Nat) (dn : Nat) (kk : Nat) (id : Nat) (sz : Nat) (hrow : ∀ j, row j < 256) (htg : ∀ j, tg j < 256) (hst : ∀ j, st j < 1000) (hln : ∀ j, ln j < 65536) (har : ∀ j, ar j < 64) (hdp : dp ≤ 16) (hsz : sz1 ≤ 300) (hkk : kk ≤ 1000) : Met l yX4_isMissing wsX4_isMissing ({ frames := 1, cells := 0, slots := 0, locals := 22 } : Room) (va_Pc [.ref m0, .int (nI kk), .int (nI id)] (cPre dC dI cA (wM cA m0 m1 m2 m3 m4 m5 m6 m7 m8 m9 cd row sz1 nd tg st ln pa rd of ar dp at_ rs fd pl tx ou wr op on dn) sz)) (qX4_isMissing dC dI cA (va_A (wM cA m0 m1 m2 m3 m4 m5 m6 m7 m8 m9 cd row sz1 nd tg st ln pa rd of ar dp at_ rs fd pl tx ou wr op on dn) sz) m0 m1 m2 m3 m4 m5 m6 m7 m8 m9 cd row sz1 nd tg st ln pa rd of ar dp at_ rs fd pl tx ou wr op on dn kk id) 0 0 (va_A (wM cA m0 m1 m2 m3 m4 m5 m6 m7 m8 m9 cd row sz1 nd tg st ln pa rd of ar dp at_ rs fd pl tx ou wr op on dn) sz) := by
  refine Met.ofW (cc := cX4_isMissing) (maxL := 4) (ret := (some .boolean)) (by decide) rfl ?_
  intro p e s m args below meth c s₁ B hml hv
  obtain ⟨rfl, hsz, hP, hK, hD0⟩ := hv
  have hx := B.exec
  have hb := B.bytes
  have hr := B.returns
  have hts := atoms_spec (ws := wsX4_isMissing) B.pre
  have hown : s.vm.findClass RX4 = some m.cls := findClass_of_methodNamed B.named
  have hlocks := B.notSynchronized
  subst hsz
  have hD := hD0.self (sz := s.heap.size)
  generalize hAe : va_A (wM cA m0 m1 m2 m3 m4 m5 m6 m7 m8 m9 cd row sz1 nd tg st ln pa rd of ar dp at_ rs fd pl tx ou wr op on dn) s.heap.size = A at hD ⊢
  have hA : ∀ q : Nat, s.heap.size ≤ q → A q := fun q h => by rw [← hAe]; exact Or.inr h
  have hS : va_S A s.heap s.heap [] := va_S.rf
  have hl := lv_entry ([.ref m0, .int (nI kk), .int (nI id)]) (n := 4) (Nat.le_of_ble_eq_true rfl)
  rw [lg_entry_eq]
  generalize (lg_sl ([.ref m0, .int (nI kk), .int (nI id)]) ++ List.replicate (4 - (lg_sl ([.ref m0, .int (nI kk), .int (nI id)])).length) Slot.unset).toArray = ls at hl ⊢
  have hl : lv_has ls 4 [(0, .ref m0), (1, .int (nI kk)), (2, .int (nI id))] := hl
  have hinX4 : ∀ w ∈ wsX40, w ∈ wsX4_isMissing := fun _ h => List.mem_cons_of_mem _ (List.mem_append_right _ h)
  have hf_16 := hts (.fieldLink RX4 16 "DerDeskModel" "starts" "[I") (by decide +kernel)
  have hf_19 := hts (.fieldLink RX4 19 "DerDeskModel" "lengths" "[I") (by decide +kernel)
  have hf_29 := hts (.fieldLink RX4 29 "DerDeskModel" "around" "[I") (by decide +kernel)
  have hf_48 := hts (.fieldLink RX4 48 "DerDeskModel" "size" "I") (by decide +kernel)
  have hf_61 := hts (.fieldLink RX4 61 "DerDeskModel" "depth" "I") (by decide +kernel)
  have hP : va_P (dC, dI) vwCl (wM cA m0 m1 m2 m3 m4 m5 m6 m7 m8 m9 cd row sz1 nd tg st ln pa rd of ar dp at_ rs fd pl tx ou wr op on dn) s.heap := hP
  refine lv_aload_n hx hb dX4_isMissing_0 rfl (lv_at hl 0 rfl) ?_
  refine va_get (D := (dC, dI)) (ci := 3) (v := .int (nI dp)) (C := RX4) (T := TX4) (N := 22) hx hb hts hinX4 hown hK hP 0 rfl rfl 11 (by decide) hf_61 (fun _ h9 => h9) rfl dX4_isMissing_1 ?_
  refine hl_if_ne (tgt := 14) hx hb dX4_isMissing_4 (by decide) (by omega) (fun c_1 => ?_) (fun c_1 => ?_)
  · refine lv_aload_n hx hb dX4_isMissing_14 rfl (lv_at hl 0 rfl) ?_
    refine va_get (D := (dC, dI)) (ci := 3) (v := .ref m3) (C := RX4) (T := TX4) (N := 22) hx hb hts hinX4 hown hK hP 0 rfl rfl 5 (by decide) hf_16 (fun _ h9 => h9) rfl dX4_isMissing_15 ?_
    refine lv_aload_n hx hb dX4_isMissing_18 rfl (lv_at hl 0 rfl) ?_
    refine va_get (D := (dC, dI)) (ci := 3) (v := .ref m6) (C := RX4) (T := TX4) (N := 22) hx hb hts hinX4 hown hK hP 0 rfl rfl 10 (by decide) hf_29 (fun _ h9 => h9) rfl dX4_isMissing_19 ?_
    refine lv_aload_n hx hb dX4_isMissing_22 rfl (lv_at hl 0 rfl) ?_
    refine va_get (D := (dC, dI)) (ci := 3) (v := .int (nI dp)) (C := RX4) (T := TX4) (N := 22) hx hb hts hinX4 hown hK hP 0 rfl rfl 11 (by decide) hf_61 (fun _ h9 => h9) rfl dX4_isMissing_23 ?_
    refine lv_iconst (v := nI 1) hx hb dX4_isMissing_26 (by decide) ?_
    refine hl_isub hx hb (by omega) dX4_isMissing_27 ?_
    refine hl_iald hx hb hK hP 6 0 rfl rfl (by omega) (by decide) dX4_isMissing_28 ?_
    have hv_2 := har (dp - 1)
    refine hl_iald hx hb hK hP 3 0 rfl rfl (by omega) (by decide) dX4_isMissing_29 ?_
    have hv_3 := hst (ar (dp - 1))
    refine lv_aload_n hx hb dX4_isMissing_30 rfl (lv_at hl 0 rfl) ?_
    refine va_get (D := (dC, dI)) (ci := 3) (v := .ref m4) (C := RX4) (T := TX4) (N := 22) hx hb hts hinX4 hown hK hP 0 rfl rfl 6 (by decide) hf_19 (fun _ h9 => h9) rfl dX4_isMissing_31 ?_
    refine lv_aload_n hx hb dX4_isMissing_34 rfl (lv_at hl 0 rfl) ?_
    refine va_get (D := (dC, dI)) (ci := 3) (v := .ref m6) (C := RX4) (T := TX4) (N := 22) hx hb hts hinX4 hown hK hP 0 rfl rfl 10 (by decide) hf_29 (fun _ h9 => h9) rfl dX4_isMissing_35 ?_
    refine lv_aload_n hx hb dX4_isMissing_38 rfl (lv_at hl 0 rfl) ?_
    refine va_get (D := (dC, dI)) (ci := 3) (v := .int (nI dp)) (C := RX4) (T := TX4) (N := 22) hx hb hts hinX4 hown hK hP 0 rfl rfl 11 (by decide) hf_61 (fun _ h9 => h9) rfl dX4_isMissing_39 ?_
    refine lv_iconst (v := nI 1) hx hb dX4_isMissing_42 (by decide) ?_
    refine hl_isub hx hb (by omega) dX4_isMissing_43 ?_
    refine hl_iald hx hb hK hP 6 0 rfl rfl (by omega) (by decide) dX4_isMissing_44 ?_
    have hv_4 := har (dp - 1)
    refine hl_iald hx hb hK hP 4 0 rfl rfl (by omega) (by decide) dX4_isMissing_45 ?_
    have hv_5 := hln (ar (dp - 1))
    refine hl_iadd hx hb dX4_isMissing_46 ?_
    refine lv_istore_n (lv' := [(3, .int (nI ((st (ar (dp - 1))) + (ln (ar (dp - 1)))))), (0, .ref m0), (1, .int (nI kk)), (2, .int (nI id))]) hx hb dX4_isMissing_47 rfl hl (by decide) rfl (fun ls hl => ?_)
    have hL : limN sz1 dp ar st ln = (st (ar (dp - 1))) + (ln (ar (dp - 1))) := by unfold limN; first | rw [if_pos (by assumption)] | rw [if_neg (by assumption)]
    refine lv_iload_n hx hb dX4_isMissing_48 rfl (lv_at hl 2 rfl) ?_
    refine lv_iload_n hx hb dX4_isMissing_49 rfl (lv_at hl 0 rfl) ?_
    refine hl_icmp_ge (tgt := 55) hx hb dX4_isMissing_50 (by decide) (by omega) (by omega) (fun c_6 => ?_) (fun c_6 => ?_)
    · refine lv_aload_n hx hb dX4_isMissing_55 rfl (lv_at hl 1 rfl) ?_
      refine va_get (D := (dC, dI)) (ci := 3) (v := .int (nI dp)) (C := RX4) (T := TX4) (N := 22) hx hb hts hinX4 hown hK hP 0 rfl rfl 11 (by decide) hf_61 (fun _ h9 => h9) rfl dX4_isMissing_56 ?_
      refine hl_if_ne (tgt := 74) hx hb dX4_isMissing_59 (by decide) (by omega) (fun c_7 => ?_) (fun c_7 => ?_)
      · refine lv_aload_n hx hb dX4_isMissing_74 rfl (lv_at hl 1 rfl) ?_
        refine lv_bipush (v := (-4)) hx hb dX4_isMissing_75 (by decide) ?_
        refine lv_iload_n hx hb dX4_isMissing_77 rfl (lv_at hl 3 rfl) ?_
        refine cl_Vv (As := [.int (-4), .int (nI id)]) (rest := []) (wr := []) ⟨hx, hb, hml, hown, hts⟩ (k_X4_fail l dC dI cA m0 m1 m2 m3 m4 m5 m6 m7 m8 m9 cd row sz1 nd tg st ln pa rd of ar dp at_ rs fd pl tx ou wr op on dn (-4) (nI id) _ ) (cwV 2 hts gX4_isMissing_X4_fail rfl rfl rfl (by decide +kernel) ⟨Nat.le_of_ble_eq_true rfl, Nat.le_of_ble_eq_true rfl⟩) hK hP hD hS hA [0, 1, 2, 3, 4, 5, 6, 7, 8, 9] [] rfl rfl (by decide) (by decide) (by decide) (ci := 3) (q0 := 0) rfl rfl rfl rfl hl.1 rfl (Nat.le_of_ble_eq_true rfl) dX4_isMissing_78 ⟨Nat.le_of_ble_eq_true rfl, Nat.le_of_ble_eq_true rfl⟩ (fun u_8 H locs hw_8 hP hD hS => ?_)
        obtain ⟨rs2_8, pl2_8⟩ := u_8
        have hP : va_P (dC, dI) vwCl (wM cA m0 m1 m2 m3 m4 m5 m6 m7 m8 m9 cd row sz1 nd tg st ln pa rd of ar dp at_ rs2_8 fd pl2_8 tx ou wr op on dn) H := hP
        have hD : va_D A (wM cA m0 m1 m2 m3 m4 m5 m6 m7 m8 m9 cd row sz1 nd tg st ln pa rd of ar dp at_ rs2_8 fd pl2_8 tx ou wr op on dn) := hD
        have hw_8 : rs2_8 = (-4) ∧ pl2_8 = (nI id) := hw_8
        obtain ⟨e0_8, e1_8⟩ := hw_8
        have e0_8 := e0_8.symm
        subst e0_8
        have e1_8 := e1_8.symm
        subst e1_8
        refine lv_iconst (v := nI 1) hx hb dX4_isMissing_81 (by decide) ?_
        have hP9 : va_P (dC, dI) vwCl (vX4_isMissing cA m0 m1 m2 m3 m4 m5 m6 m7 m8 m9 cd row sz1 nd tg st ln pa rd of ar dp at_ rs fd pl tx ou wr op on dn kk id ((-4), (nI id))) _ := hP
        have hD9 : va_D A (vX4_isMissing cA m0 m1 m2 m3 m4 m5 m6 m7 m8 m9 cd row sz1 nd tg st ln pa rd of ar dp at_ rs fd pl tx ou wr op on dn kk id ((-4), (nI id))) := hD
        have hq9 : pX4_isMissing m0 m1 m2 m3 m4 m5 m6 m7 m8 m9 cd row sz1 nd tg st ln pa rd of ar dp at_ rs fd pl tx ou wr op on dn kk id (nI 1) ((-4), (nI id)) := Or.inr ⟨by omega, rfl, by first | (exfalso; omega) | (unfold cutE; rw [if_pos (by assumption)]) | (unfold cutE; rw [if_neg (by assumption)])⟩
        exact W.zret (v := nI 1) hx hb hr rfl (fun t ht hW => ⟨⟨nI 1, ((-4), (nI id)), rfl, hq9, by rw [ht]; exact hP9, va_K.moved hW.alike hK, hD9⟩, hS.F ht⟩) hS.2.2 dX4_isMissing_82
      · refine lv_aload_n hx hb dX4_isMissing_62 rfl (lv_at hl 1 rfl) ?_
        refine lv_iconst (v := (-1)) hx hb dX4_isMissing_63 (by decide) ?_
        refine lv_aload_n hx hb dX4_isMissing_64 rfl (lv_at hl 1 rfl) ?_
        refine va_get (D := (dC, dI)) (ci := 3) (v := .int (nI sz1)) (C := RX4) (T := TX4) (N := 22) hx hb hts hinX4 hown hK hP 0 rfl rfl 2 (by decide) hf_48 (fun _ h9 => h9) rfl dX4_isMissing_65 ?_
        refine cl_Vv (As := [.int (-1), .int (nI sz1)]) (rest := []) (wr := []) ⟨hx, hb, hml, hown, hts⟩ (k_X4_fail l dC dI cA m0 m1 m2 m3 m4 m5 m6 m7 m8 m9 cd row sz1 nd tg st ln pa rd of ar dp at_ rs fd pl tx ou wr op on dn (-1) (nI sz1) _ ) (cwV 2 hts gX4_isMissing_X4_fail rfl rfl rfl (by decide +kernel) ⟨Nat.le_of_ble_eq_true rfl, Nat.le_of_ble_eq_true rfl⟩) hK hP hD hS hA [0, 1, 2, 3, 4, 5, 6, 7, 8, 9] [] rfl rfl (by decide) (by decide) (by decide) (ci := 3) (q0 := 0) rfl rfl rfl rfl hl.1 rfl (Nat.le_of_ble_eq_true rfl) dX4_isMissing_68 ⟨Nat.le_of_ble_eq_true rfl, Nat.le_of_ble_eq_true rfl⟩ (fun u_9 H locs hw_9 hP hD hS => ?_)
        obtain ⟨rs2_9, pl2_9⟩ := u_9
        have hP : va_P (dC, dI) vwCl (wM cA m0 m1 m2 m3 m4 m5 m6 m7 m8 m9 cd row sz1 nd tg st ln pa rd of ar dp at_ rs2_9 fd pl2_9 tx ou wr op on dn) H := hP
        have hD : va_D A (wM cA m0 m1 m2 m3 m4 m5 m6 m7 m8 m9 cd row sz1 nd tg st ln pa rd of ar dp at_ rs2_9 fd pl2_9 tx ou wr op on dn) := hD
        have hw_9 : rs2_9 = (-1) ∧ pl2_9 = (nI sz1) := hw_9
        obtain ⟨e0_9, e1_9⟩ := hw_9
        have e0_9 := e0_9.symm
        subst e0_9
        have e1_9 := e1_9.symm
        subst e1_9
        refine lv_goto (tgt := 81) hx hb dX4_isMissing_71 (by decide) ?_
        refine lv_iconst (v := nI 1) hx hb dX4_isMissing_81 (by decide) ?_
        have hP9 : va_P (dC, dI) vwCl (vX4_isMissing cA m0 m1 m2 m3 m4 m5 m6 m7 m8 m9 cd row sz1 nd tg st ln pa rd of ar dp at_ rs fd pl tx ou wr op on dn kk id ((-1), (nI sz1))) _ := hP
        have hD9 : va_D A (vX4_isMissing cA m0 m1 m2 m3 m4 m5 m6 m7 m8 m9 cd row sz1 nd tg st ln pa rd of ar dp at_ rs fd pl tx ou wr op on dn kk id ((-1), (nI sz1))) := hD
        have hq9 : pX4_isMissing m0 m1 m2 m3 m4 m5 m6 m7 m8 m9 cd row sz1 nd tg st ln pa rd of ar dp at_ rs fd pl tx ou wr op on dn kk id (nI 1) ((-1), (nI sz1)) := Or.inr ⟨by omega, rfl, by first | (exfalso; omega) | (unfold cutE; rw [if_pos (by assumption)]) | (unfold cutE; rw [if_neg (by assumption)])⟩
        exact W.zret (v := nI 1) hx hb hr rfl (fun t ht hW => ⟨⟨nI 1, ((-1), (nI sz1)), rfl, hq9, by rw [ht]; exact hP9, va_K.moved hW.alike hK, hD9⟩, hS.F ht⟩) hS.2.2 dX4_isMissing_82
    · refine lv_iconst (v := nI 0) hx hb dX4_isMissing_53 (by decide) ?_
      have hP9 : va_P (dC, dI) vwCl (vX4_isMissing cA m0 m1 m2 m3 m4 m5 m6 m7 m8 m9 cd row sz1 nd tg st ln pa rd of ar dp at_ rs fd pl tx ou wr op on dn kk id (rs, pl)) _ := hP
      have hD9 : va_D A (vX4_isMissing cA m0 m1 m2 m3 m4 m5 m6 m7 m8 m9 cd row sz1 nd tg st ln pa rd of ar dp at_ rs fd pl tx ou wr op on dn kk id (rs, pl)) := hD
      have hq9 : pX4_isMissing m0 m1 m2 m3 m4 m5 m6 m7 m8 m9 cd row sz1 nd tg st ln pa rd of ar dp at_ rs fd pl tx ou wr op on dn kk id (nI 0) (rs, pl) := Or.inl ⟨by omega, rfl, rfl, rfl⟩
      exact W.zret (v := nI 0) hx hb hr rfl (fun t ht hW => ⟨⟨nI 0, (rs, pl), rfl, hq9, by rw [ht]; exact hP9, va_K.moved hW.alike hK, hD9⟩, hS.F ht⟩) hS.2.2 dX4_isMissing_54
  · refine lv_aload_n hx hb dX4_isMissing_7 rfl (lv_at hl 0 rfl) ?_
    refine va_get (D := (dC, dI)) (ci := 3) (v := .int (nI sz1)) (C := RX4) (T := TX4) (N := 22) hx hb hts hinX4 hown hK hP 0 rfl rfl 2 (by decide) hf_48 (fun _ h9 => h9) rfl dX4_isMissing_8 ?_
    refine lv_goto (tgt := 47) hx hb dX4_isMissing_11 (by decide) ?_
    refine lv_istore_n (lv' := [(3, .int (nI sz1)), (0, .ref m0), (1, .int (nI kk)), (2, .int (nI id))]) hx hb dX4_isMissing_47 rfl hl (by decide) rfl (fun ls hl => ?_)
    have hL : limN sz1 dp ar st ln = sz1 := by unfold limN; first | rw [if_pos (by assumption)] | rw [if_neg (by assumption)]
    refine lv_iload_n hx hb dX4_isMissing_48 rfl (lv_at hl 2 rfl) ?_
    refine lv_iload_n hx hb dX4_isMissing_49 rfl (lv_at hl 0 rfl) ?_
    refine hl_icmp_ge (tgt := 55) hx hb dX4_isMissing_50 (by decide) (by omega) (by omega) (fun c_10 => ?_) (fun c_10 => ?_)
    · refine lv_aload_n hx hb dX4_isMissing_55 rfl (lv_at hl 1 rfl) ?_
      refine va_get (D := (dC, dI)) (ci := 3) (v := .int (nI dp)) (C := RX4) (T := TX4) (N := 22) hx hb hts hinX4 hown hK hP 0 rfl rfl 11 (by decide) hf_61 (fun _ h9 => h9) rfl dX4_isMissing_56 ?_
      refine hl_if_ne (tgt := 74) hx hb dX4_isMissing_59 (by decide) (by omega) (fun c_11 => ?_) (fun c_11 => ?_)
      · refine lv_aload_n hx hb dX4_isMissing_74 rfl (lv_at hl 1 rfl) ?_
        refine lv_bipush (v := (-4)) hx hb dX4_isMissing_75 (by decide) ?_
        refine lv_iload_n hx hb dX4_isMissing_77 rfl (lv_at hl 3 rfl) ?_
        refine cl_Vv (As := [.int (-4), .int (nI id)]) (rest := []) (wr := []) ⟨hx, hb, hml, hown, hts⟩ (k_X4_fail l dC dI cA m0 m1 m2 m3 m4 m5 m6 m7 m8 m9 cd row sz1 nd tg st ln pa rd of ar dp at_ rs fd pl tx ou wr op on dn (-4) (nI id) _ ) (cwV 2 hts gX4_isMissing_X4_fail rfl rfl rfl (by decide +kernel) ⟨Nat.le_of_ble_eq_true rfl, Nat.le_of_ble_eq_true rfl⟩) hK hP hD hS hA [0, 1, 2, 3, 4, 5, 6, 7, 8, 9] [] rfl rfl (by decide) (by decide) (by decide) (ci := 3) (q0 := 0) rfl rfl rfl rfl hl.1 rfl (Nat.le_of_ble_eq_true rfl) dX4_isMissing_78 ⟨Nat.le_of_ble_eq_true rfl, Nat.le_of_ble_eq_true rfl⟩ (fun u_12 H locs hw_12 hP hD hS => ?_)
        obtain ⟨rs2_12, pl2_12⟩ := u_12
        have hP : va_P (dC, dI) vwCl (wM cA m0 m1 m2 m3 m4 m5 m6 m7 m8 m9 cd row sz1 nd tg st ln pa rd of ar dp at_ rs2_12 fd pl2_12 tx ou wr op on dn) H := hP
        have hD : va_D A (wM cA m0 m1 m2 m3 m4 m5 m6 m7 m8 m9 cd row sz1 nd tg st ln pa rd of ar dp at_ rs2_12 fd pl2_12 tx ou wr op on dn) := hD
        have hw_12 : rs2_12 = (-4) ∧ pl2_12 = (nI id) := hw_12
        obtain ⟨e0_12, e1_12⟩ := hw_12
        have e0_12 := e0_12.symm
        subst e0_12
        have e1_12 := e1_12.symm
        subst e1_12
        refine lv_iconst (v := nI 1) hx hb dX4_isMissing_81 (by decide) ?_
        have hP9 : va_P (dC, dI) vwCl (vX4_isMissing cA m0 m1 m2 m3 m4 m5 m6 m7 m8 m9 cd row sz1 nd tg st ln pa rd of ar dp at_ rs fd pl tx ou wr op on dn kk id ((-4), (nI id))) _ := hP
        have hD9 : va_D A (vX4_isMissing cA m0 m1 m2 m3 m4 m5 m6 m7 m8 m9 cd row sz1 nd tg st ln pa rd of ar dp at_ rs fd pl tx ou wr op on dn kk id ((-4), (nI id))) := hD
        have hq9 : pX4_isMissing m0 m1 m2 m3 m4 m5 m6 m7 m8 m9 cd row sz1 nd tg st ln pa rd of ar dp at_ rs fd pl tx ou wr op on dn kk id (nI 1) ((-4), (nI id)) := Or.inr ⟨by omega, rfl, by first | (exfalso; omega) | (unfold cutE; rw [if_pos (by assumption)]) | (unfold cutE; rw [if_neg (by assumption)])⟩
        exact W.zret (v := nI 1) hx hb hr rfl (fun t ht hW => ⟨⟨nI 1, ((-4), (nI id)), rfl, hq9, by rw [ht]; exact hP9, va_K.moved hW.alike hK, hD9⟩, hS.F ht⟩) hS.2.2 dX4_isMissing_82
      · refine lv_aload_n hx hb dX4_isMissing_62 rfl (lv_at hl 1 rfl) ?_
        refine lv_iconst (v := (-1)) hx hb dX4_isMissing_63 (by decide) ?_
        refine lv_aload_n hx hb dX4_isMissing_64 rfl (lv_at hl 1 rfl) ?_
        refine va_get (D := (dC, dI)) (ci := 3) (v := .int (nI sz1)) (C := RX4) (T := TX4) (N := 22) hx hb hts hinX4 hown hK hP 0 rfl rfl 2 (by decide) hf_48 (fun _ h9 => h9) rfl dX4_isMissing_65 ?_
        refine cl_Vv (As := [.int (-1), .int (nI sz1)]) (rest := []) (wr := []) ⟨hx, hb, hml, hown, hts⟩ (k_X4_fail l dC dI cA m0 m1 m2 m3 m4 m5 m6 m7 m8 m9 cd row sz1 nd tg st ln pa rd of ar dp at_ rs fd pl tx ou wr op on dn (-1) (nI sz1) _ ) (cwV 2 hts gX4_isMissing_X4_fail rfl rfl rfl (by decide +kernel) ⟨Nat.le_of_ble_eq_true rfl, Nat.le_of_ble_eq_true rfl⟩) hK hP hD hS hA [0, 1, 2, 3, 4, 5, 6, 7, 8, 9] [] rfl rfl (by decide) (by decide) (by decide) (ci := 3) (q0 := 0) rfl rfl rfl rfl hl.1 rfl (Nat.le_of_ble_eq_true rfl) dX4_isMissing_68 ⟨Nat.le_of_ble_eq_true rfl, Nat.le_of_ble_eq_true rfl⟩ (fun u_13 H locs hw_13 hP hD hS => ?_)
        obtain ⟨rs2_13, pl2_13⟩ := u_13
        have hP : va_P (dC, dI) vwCl (wM cA m0 m1 m2 m3 m4 m5 m6 m7 m8 m9 cd row sz1 nd tg st ln pa rd of ar dp at_ rs2_13 fd pl2_13 tx ou wr op on dn) H := hP
        have hD : va_D A (wM cA m0 m1 m2 m3 m4 m5 m6 m7 m8 m9 cd row sz1 nd tg st ln pa rd of ar dp at_ rs2_13 fd pl2_13 tx ou wr op on dn) := hD
        have hw_13 : rs2_13 = (-1) ∧ pl2_13 = (nI sz1) := hw_13
        obtain ⟨e0_13, e1_13⟩ := hw_13
        have e0_13 := e0_13.symm
        subst e0_13
        have e1_13 := e1_13.symm
        subst e1_13
        refine lv_goto (tgt := 81) hx hb dX4_isMissing_71 (by decide) ?_
        refine lv_iconst (v := nI 1) hx hb dX4_isMissing_81 (by decide) ?_
        have hP9 : va_P (dC, dI) vwCl (vX4_isMissing cA m0 m1 m2 m3 m4 m5 m6 m7 m8 m9 cd row sz1 nd tg st ln pa rd of ar dp at_ rs fd pl tx ou wr op on dn kk id ((-1), (nI sz1))) _ := hP
        have hD9 : va_D A (vX4_isMissing cA m0 m1 m2 m3 m4 m5 m6 m7 m8 m9 cd row sz1 nd tg st ln pa rd of ar dp at_ rs fd pl tx ou wr op on dn kk id ((-1), (nI sz1))) := hD
        have hq9 : pX4_isMissing m0 m1 m2 m3 m4 m5 m6 m7 m8 m9 cd row sz1 nd tg st ln pa rd of ar dp at_ rs fd pl tx ou wr op on dn kk id (nI 1) ((-1), (nI sz1)) := Or.inr ⟨by omega, rfl, by first | (exfalso; omega) | (unfold cutE; rw [if_pos (by assumption)]) | (unfold cutE; rw [if_neg (by assumption)])⟩
        exact W.zret (v := nI 1) hx hb hr rfl (fun t ht hW => ⟨⟨nI 1, ((-1), (nI sz1)), rfl, hq9, by rw [ht]; exact hP9, va_K.moved hW.alike hK, hD9⟩, hS.F ht⟩) hS.2.2 dX4_isMissing_82
    · refine lv_iconst (v := nI 0) hx hb dX4_isMissing_53 (by decide) ?_
      have hP9 : va_P (dC, dI) vwCl (vX4_isMissing cA m0 m1 m2 m3 m4 m5 m6 m7 m8 m9 cd row sz1 nd tg st ln pa rd of ar dp at_ rs fd pl tx ou wr op on dn kk id (rs, pl)) _ := hP
      have hD9 : va_D A (vX4_isMissing cA m0 m1 m2 m3 m4 m5 m6 m7 m8 m9 cd row sz1 nd tg st ln pa rd of ar dp at_ rs fd pl tx ou wr op on dn kk id (rs, pl)) := hD
      have hq9 : pX4_isMissing m0 m1 m2 m3 m4 m5 m6 m7 m8 m9 cd row sz1 nd tg st ln pa rd of ar dp at_ rs fd pl tx ou wr op on dn kk id (nI 0) (rs, pl) := Or.inl ⟨by omega, rfl, rfl, rfl⟩
      exact W.zret (v := nI 0) hx hb hr rfl (fun t ht hW => ⟨⟨nI 0, (rs, pl), rfl, hq9, by rw [ht]; exact hP9, va_K.moved hW.alike hK, hD9⟩, hS.F ht⟩) hS.2.2 dX4_isMissing_54
abbrev pX4_length (m0 : Nat) (m1 : Nat) (m2 : Nat) (m3 : Nat) (m4 : Nat) (m5 : Nat) (m6 : Nat) (m7 : Nat) (m8 : Nat) (m9 : Nat) (cd : Int32) (row : Nat → Nat) (sz1 : Nat) (nd : Nat) (tg : Nat → Nat) (st : Nat → Nat) (ln : Nat → Nat) (pa : Nat → Int32) (rd : Nat) (of : Int32) (ar : Nat → Nat) (dp : Nat) (at_ : Nat) (rs : Int32) (fd : Nat) (pl : Int32) (tx : Nat → Nat) (ou : Nat → Nat) (wr : Nat) (op : Nat → Nat) (on : Nat) (dn : Nat) (id : Nat) : Int32 → Nat × Int32 × Int32 × Nat × Nat → Prop := fun (r : Int32) (u : Nat × Int32 × Int32 × Nat × Nat) => match u with | (at2, rs2, pl2, xn, xa) => (lenS row (limN sz1 dp ar st ln) dp sz1 id = .inr (xn, xa) ∧ r = nI xn ∧ at2 = xa ∧ rs2 = rs ∧ pl2 = pl) ∨ (lenS row (limN sz1 dp ar st ln) dp sz1 id = .inl (rs2, pl2) ∧ r = -1 ∧ rs2 ≠ 0 ∧ at2 = at_)
abbrev vX4_length (cA : ClassId) (m0 : Nat) (m1 : Nat) (m2 : Nat) (m3 : Nat) (m4 : Nat) (m5 : Nat) (m6 : Nat) (m7 : Nat) (m8 : Nat) (m9 : Nat) (cd : Int32) (row : Nat → Nat) (sz1 : Nat) (nd : Nat) (tg : Nat → Nat) (st : Nat → Nat) (ln : Nat → Nat) (pa : Nat → Int32) (rd : Nat) (of : Int32) (ar : Nat → Nat) (dp : Nat) (at_ : Nat) (rs : Int32) (fd : Nat) (pl : Int32) (tx : Nat → Nat) (ou : Nat → Nat) (wr : Nat) (op : Nat → Nat) (on : Nat) (dn : Nat) (id : Nat) : Nat × Int32 × Int32 × Nat × Nat → va_W := fun (u : Nat × Int32 × Int32 × Nat × Nat) => match u with | (at2, rs2, pl2, xn, xa) => wM cA m0 m1 m2 m3 m4 m5 m6 m7 m8 m9 cd row sz1 nd tg st ln pa rd of ar dp at2 rs2 fd pl2 tx ou wr op on dn
abbrev qX4_length (dC : Nat → ClassId) (dI : Nat → Nat → Nat) (cA : ClassId) (A : Nat → Prop) (m0 : Nat) (m1 : Nat) (m2 : Nat) (m3 : Nat) (m4 : Nat) (m5 : Nat) (m6 : Nat) (m7 : Nat) (m8 : Nat) (m9 : Nat) (cd : Int32) (row : Nat → Nat) (sz1 : Nat) (nd : Nat) (tg : Nat → Nat) (st : Nat → Nat) (ln : Nat → Nat) (pa : Nat → Int32) (rd : Nat) (of : Int32) (ar : Nat → Nat) (dp : Nat) (at_ : Nat) (rs : Int32) (fd : Nat) (pl : Int32) (tx : Nat → Nat) (ou : Nat → Nat) (wr : Nat) (op : Nat → Nat) (on : Nat) (dn : Nat) (id : Nat) : Array Value → State → Outcome → State → Prop := va_Qi (pX4_length m0 m1 m2 m3 m4 m5 m6 m7 m8 m9 cd row sz1 nd tg st ln pa rd of ar dp at_ rs fd pl tx ou wr op on dn id) (fun u => cAft dC dI cA A (vX4_length cA m0 m1 m2 m3 m4 m5 m6 m7 m8 m9 cd row sz1 nd tg st ln pa rd of ar dp at_ rs fd pl tx ou wr op on dn id u)) A
set_option maxHeartbeats 4000000 in
set_option maxRecDepth 100000 in
theorem k_X4_length (l : Launch) (dC : Nat → ClassId) (dI : Nat → Nat → Nat) (cA : ClassId) (m0 : Nat) (m1 : Nat) (m2 : Nat) (m3 : Nat) (m4 : Nat) (m5 : Nat) (m6 : Nat) (m7 : Nat) (m8 : Nat) (m9 : Nat) (cd : Int32) (row : Nat → Nat) (sz1 : Nat) (nd : Nat) (tg : Nat → Nat) (st : Nat → Nat) (ln : Nat → Nat) (pa : Nat → Int32) (rd : Nat) (of : Int32) (ar : Nat → Nat) (dp : Nat) (at_ : Nat) (rs : Int32) (fd : Nat) (pl : Int32) (tx : Nat → Nat) (ou : Nat → Nat) (wr : Nat) (op : Nat → Nat) (on : Nat) (dn : Nat) (id : Nat) (sz : Nat) (hrow : ∀ j, row j < 256) (htg : ∀ j, tg j < 256) (hst : ∀ j, st j < 1000) (hln : ∀ j, ln j < 65536) (har : ∀ j, ar j < 64) (hdp : dp ≤ 16) (hsz : sz1 ≤ 300) (hid : id ≤ 300) (hlim : limN sz1 dp ar st ln ≤ 300) : Met l yX4_length wsX4_length ({ frames := 2, cells := 0, slots := 0, locals := 45 } : Room) (va_Pc [.ref m0, .int (nI id)] (cPre dC dI cA (wM cA m0 m1 m2 m3 m4 m5 m6 m7 m8 m9 cd row sz1 nd tg st ln pa rd of ar dp at_ rs fd pl tx ou wr op on dn) sz)) (qX4_length dC dI cA (va_A (wM cA m0 m1 m2 m3 m4 m5 m6 m7 m8 m9 cd row sz1 nd tg st ln pa rd of ar dp at_ rs fd pl tx ou wr op on dn) sz) m0 m1 m2 m3 m4 m5 m6 m7 m8 m9 cd row sz1 nd tg st ln pa rd of ar dp at_ rs fd pl tx ou wr op on dn id) 0 0 (va_A (wM cA m0 m1 m2 m3 m4 m5 m6 m7 m8 m9 cd row sz1 nd tg st ln pa rd of ar dp at_ rs fd pl tx ou wr op on dn) sz) := by
  refine Met.ofW (cc := cX4_length) (maxL := 7) (ret := (some .int)) (by decide) rfl ?_
  intro p e s m args below meth c s₁ B hml hv
  obtain ⟨rfl, hsz, hP, hK, hD0⟩ := hv
  have hx := B.exec
  have hb := B.bytes
  have hr := B.returns
  have hts := atoms_spec (ws := wsX4_length) B.pre
  have hown : s.vm.findClass RX4 = some m.cls := findClass_of_methodNamed B.named
  have hlocks := B.notSynchronized
  subst hsz
  have hD := hD0.self (sz := s.heap.size)
  generalize hAe : va_A (wM cA m0 m1 m2 m3 m4 m5 m6 m7 m8 m9 cd row sz1 nd tg st ln pa rd of ar dp at_ rs fd pl tx ou wr op on dn) s.heap.size = A at hD ⊢
  have hA : ∀ q : Nat, s.heap.size ≤ q → A q := fun q h => by rw [← hAe]; exact Or.inr h
  have hS : va_S A s.heap s.heap [] := va_S.rf
  have hl := lv_entry ([.ref m0, .int (nI id)]) (n := 7) (Nat.le_of_ble_eq_true rfl)
  rw [lg_entry_eq]
  generalize (lg_sl ([.ref m0, .int (nI id)]) ++ List.replicate (7 - (lg_sl ([.ref m0, .int (nI id)])).length) Slot.unset).toArray = ls at hl ⊢
  have hl : lv_has ls 7 [(0, .ref m0), (1, .int (nI id))] := hl
  have hinX4 : ∀ w ∈ wsX40, w ∈ wsX4_length := fun _ h => List.mem_cons_of_mem _ (List.mem_append_right _ h)
  have hf_7 := hts (.fieldLink RX4 7 "DerDeskModel" "row" "[I") (by decide +kernel)
  have hf_72 := hts (.fieldLink RX4 72 "DerDeskModel" "at" "I") (by decide +kernel)
  have hP : va_P (dC, dI) vwCl (wM cA m0 m1 m2 m3 m4 m5 m6 m7 m8 m9 cd row sz1 nd tg st ln pa rd of ar dp at_ rs fd pl tx ou wr op on dn) s.heap := hP
  refine lv_iload_n hx hb dX4_length_0 rfl (lv_at hl 1 rfl) ?_
  refine lv_iconst (v := nI 1) hx hb dX4_length_1 (by decide) ?_
  refine hl_iadd hx hb dX4_length_2 ?_
  refine lv_istore_n (lv' := [(2, .int (nI (id + 1))), (0, .ref m0), (1, .int (nI id))]) hx hb dX4_length_3 rfl hl (by decide) rfl (fun ls hl => ?_)
  refine lv_aload_n hx hb dX4_length_4 rfl (lv_at hl 1 rfl) ?_
  refine lv_iload_n hx hb dX4_length_5 rfl (lv_at hl 0 rfl) ?_
  refine lv_iload_n hx hb dX4_length_6 rfl (lv_at hl 2 rfl) ?_
  refine cl_Vi (As := [.int (nI (id + 1)), .int (nI id)]) (rest := []) (wr := []) ⟨hx, hb, hml, hown, hts⟩ (k_X4_isMissing l dC dI cA m0 m1 m2 m3 m4 m5 m6 m7 m8 m9 cd row sz1 nd tg st ln pa rd of ar dp at_ rs fd pl tx ou wr op on dn (id + 1) id _ hrow htg hst hln har (by omega) (by omega) (by omega)) (cwV 2 hts gX4_length_X4_isMissing rfl rfl rfl (by decide +kernel) ⟨Nat.le_of_ble_eq_true rfl, Nat.le_of_ble_eq_true rfl⟩) hK hP hD hS hA [0, 1, 2, 3, 4, 5, 6, 7, 8, 9] [] rfl rfl (by decide) (by decide) (by decide) (ci := 3) (q0 := 0) rfl rfl rfl rfl hl.1 rfl (Nat.le_of_ble_eq_true rfl) dX4_length_7 ⟨Nat.le_of_ble_eq_true rfl, Nat.le_of_ble_eq_true rfl⟩ (fun r_1 u_1 H locs hw_1 hP hD hS => ?_)
  obtain ⟨rs2_1, pl2_1⟩ := u_1
  have hP : va_P (dC, dI) vwCl (wM cA m0 m1 m2 m3 m4 m5 m6 m7 m8 m9 cd row sz1 nd tg st ln pa rd of ar dp at_ rs2_1 fd pl2_1 tx ou wr op on dn) H := hP
  have hD : va_D A (wM cA m0 m1 m2 m3 m4 m5 m6 m7 m8 m9 cd row sz1 nd tg st ln pa rd of ar dp at_ rs2_1 fd pl2_1 tx ou wr op on dn) := hD
  have hw_1 : (¬ limN sz1 dp ar st ln ≤ (id + 1) ∧ r_1 = nI 0 ∧ rs2_1 = rs ∧ pl2_1 = pl) ∨ (limN sz1 dp ar st ln ≤ (id + 1) ∧ r_1 = nI 1 ∧ (rs2_1, pl2_1) = cutE dp sz1 id) := hw_1
  rcases hw_1 with ⟨hms_1, e1_1, e2_1, e3_1⟩ | ⟨hms_1, e1_1, hcut_1⟩
  · have e1_1 := e1_1.symm
    subst e1_1
    have e2_1 := e2_1.symm
    subst e2_1
    have e3_1 := e3_1.symm
    subst e3_1
    refine hl_if_eq (tgt := 15) hx hb dX4_length_10 (by decide) (by omega) (fun c_2 => ?_) (fun c_2 => absurd c_2 (by decide))
    refine lv_aload_n hx hb dX4_length_15 rfl (lv_at hl 1 rfl) ?_
    refine va_get (D := (dC, dI)) (ci := 3) (v := .ref m1) (C := RX4) (T := TX4) (N := 22) hx hb hts hinX4 hown hK hP 0 rfl rfl 1 (by decide) hf_7 (fun _ h9 => h9) rfl dX4_length_16 ?_
    refine lv_iload_n hx hb dX4_length_19 rfl (lv_at hl 0 rfl) ?_
    refine hl_iald hx hb hK hP 1 0 rfl rfl (by omega) (by decide) dX4_length_20 ?_
    have hv_3 := hrow (id + 1)
    refine lv_istore_n (lv' := [(3, .int (nI (row (id + 1)))), (2, .int (nI (id + 1))), (0, .ref m0), (1, .int (nI id))]) hx hb dX4_length_21 rfl hl (by decide) rfl (fun ls hl => ?_)
    refine lv_iload_n hx hb dX4_length_22 rfl (lv_at hl 0 rfl) ?_
    refine lv_sipush (v := nI 128) hx hb dX4_length_23 (by decide) ?_
    refine hl_icmp_ge (tgt := 38) hx hb dX4_length_26 (by decide) (by omega) (by omega) (fun c_4 => ?_) (fun c_4 => ?_)
    · refine lv_iload_n hx hb dX4_length_38 rfl (lv_at hl 0 rfl) ?_
      refine lv_sipush (v := nI 129) hx hb dX4_length_39 (by decide) ?_
      refine hl_icmp_eq (tgt := 61) hx hb dX4_length_42 (by decide) (by omega) (by omega) (fun c_5 => ?_) (fun c_5 => ?_)
      · refine lv_iload_n hx hb dX4_length_61 rfl (lv_at hl 0 rfl) ?_
        refine lv_sipush (v := nI 128) hx hb dX4_length_62 (by decide) ?_
        refine hl_isub hx hb (by omega) dX4_length_65 ?_
        have e8 : row (id + 1) = 129 := by assumption
        refine hl_top (show nI (row (id + 1) - 128) = nI 1 by rw [e8]) ?_
        refine lv_istore (lv' := [(4, .int (nI 1)), (3, .int (nI (row (id + 1)))), (2, .int (nI (id + 1))), (0, .ref m0), (1, .int (nI id))]) hx hb dX4_length_66 hl (by decide) rfl (fun ls hl => ?_)
        refine lv_iconst (v := nI 0) hx hb dX4_length_68 (by decide) ?_
        refine lv_istore (lv' := [(5, .int (nI 0)), (4, .int (nI 1)), (3, .int (nI (row (id + 1)))), (2, .int (nI (id + 1))), (0, .ref m0), (1, .int (nI id))]) hx hb dX4_length_69 hl (by decide) rfl (fun ls hl => ?_)
        refine lv_iconst (v := nI 1) hx hb dX4_length_71 (by decide) ?_
        refine lv_istore (lv' := [(6, .int (nI 1)), (5, .int (nI 0)), (4, .int (nI 1)), (3, .int (nI (row (id + 1)))), (2, .int (nI (id + 1))), (0, .ref m0), (1, .int (nI id))]) hx hb dX4_length_72 hl (by decide) rfl (fun ls hl => ?_)
        refine lv_iload hx hb dX4_length_74 (lv_at hl 0 rfl) ?_
        refine lv_iload hx hb dX4_length_76 (lv_at hl 2 rfl) ?_
        refine hl_icmp_gt (tgt := 119) hx hb dX4_length_78 (by decide) (by omega) (by omega) (fun c_6 => absurd c_6 (by decide)) (fun c_6 => ?_)
        refine lv_aload_n hx hb dX4_length_81 rfl (lv_at hl 5 rfl) ?_
        refine lv_iload_n hx hb dX4_length_82 rfl (lv_at hl 4 rfl) ?_
        refine lv_iload hx hb dX4_length_83 (lv_at hl 0 rfl) ?_
        refine hl_iadd hx hb dX4_length_85 ?_
        refine lv_iload_n hx hb dX4_length_86 rfl (lv_at hl 6 rfl) ?_
        refine cl_Vi (As := [.int (nI ((id + 1) + 1)), .int (nI id)]) (rest := []) (wr := []) ⟨hx, hb, hml, hown, hts⟩ (k_X4_isMissing l dC dI cA m0 m1 m2 m3 m4 m5 m6 m7 m8 m9 cd row sz1 nd tg st ln pa rd of ar dp at_ rs fd pl tx ou wr op on dn ((id + 1) + 1) id _ hrow htg hst hln har (by omega) (by omega) (by omega)) (cwV 2 hts gX4_length_X4_isMissing rfl rfl rfl (by decide +kernel) ⟨Nat.le_of_ble_eq_true rfl, Nat.le_of_ble_eq_true rfl⟩) hK hP hD hS hA [0, 1, 2, 3, 4, 5, 6, 7, 8, 9] [] rfl rfl (by decide) (by decide) (by decide) (ci := 3) (q0 := 0) rfl rfl rfl rfl hl.1 rfl (Nat.le_of_ble_eq_true rfl) dX4_length_87 ⟨Nat.le_of_ble_eq_true rfl, Nat.le_of_ble_eq_true rfl⟩ (fun r_7 u_7 H locs hw_7 hP hD hS => ?_)
        obtain ⟨rs2_7, pl2_7⟩ := u_7
        have hP : va_P (dC, dI) vwCl (wM cA m0 m1 m2 m3 m4 m5 m6 m7 m8 m9 cd row sz1 nd tg st ln pa rd of ar dp at_ rs2_7 fd pl2_7 tx ou wr op on dn) H := hP
        have hD : va_D A (wM cA m0 m1 m2 m3 m4 m5 m6 m7 m8 m9 cd row sz1 nd tg st ln pa rd of ar dp at_ rs2_7 fd pl2_7 tx ou wr op on dn) := hD
        have hw_7 : (¬ limN sz1 dp ar st ln ≤ ((id + 1) + 1) ∧ r_7 = nI 0 ∧ rs2_7 = rs ∧ pl2_7 = pl) ∨ (limN sz1 dp ar st ln ≤ ((id + 1) + 1) ∧ r_7 = nI 1 ∧ (rs2_7, pl2_7) = cutE dp sz1 id) := hw_7
        rcases hw_7 with ⟨hms_7, e1_7, e2_7, e3_7⟩ | ⟨hms_7, e1_7, hcut_7⟩
        · have e1_7 := e1_7.symm
          subst e1_7
          have e2_7 := e2_7.symm
          subst e2_7
          have e3_7 := e3_7.symm
          subst e3_7
          refine hl_if_eq (tgt := 95) hx hb dX4_length_90 (by decide) (by omega) (fun c_8 => ?_) (fun c_8 => absurd c_8 (by decide))
          refine lv_sipush (v := nI 256) hx hb dX4_length_95 (by decide) ?_
          refine lv_iload hx hb dX4_length_98 (lv_at hl 1 rfl) ?_
          refine lv_imul hx hb dX4_length_100 ?_
          refine hl_top (show _ = nI 0 by decide) ?_
          refine lv_aload_n hx hb dX4_length_101 rfl (lv_at hl 5 rfl) ?_
          refine va_get (D := (dC, dI)) (ci := 3) (v := .ref m1) (C := RX4) (T := TX4) (N := 22) hx hb hts hinX4 hown hK hP 0 rfl rfl 1 (by decide) hf_7 (fun _ h9 => h9) rfl dX4_length_102 ?_
          refine lv_iload_n hx hb dX4_length_105 rfl (lv_at hl 4 rfl) ?_
          refine lv_iload hx hb dX4_length_106 (lv_at hl 0 rfl) ?_
          refine hl_iadd hx hb dX4_length_108 ?_
          refine hl_iald hx hb hK hP 1 0 rfl rfl (by omega) (by decide) dX4_length_109 ?_
          have hv_9 := hrow ((id + 1) + 1)
          refine hl_iadd hx hb dX4_length_110 ?_
          refine lv_istore (lv' := [(5, .int (nI (0 + (row ((id + 1) + 1))))), (6, .int (nI 1)), (4, .int (nI 1)), (3, .int (nI (row (id + 1)))), (2, .int (nI (id + 1))), (0, .ref m0), (1, .int (nI id))]) hx hb dX4_length_111 hl (by decide) rfl (fun ls hl => ?_)
          refine lv_iinc (v := (nI 2)) (lv' := [(6, .int (nI 2)), (5, .int (nI (0 + (row ((id + 1) + 1))))), (4, .int (nI 1)), (3, .int (nI (row (id + 1)))), (2, .int (nI (id + 1))), (0, .ref m0), (1, .int (nI id))]) hx hb dX4_length_113 hl (k := 1) rfl (by decide) (by decide) rfl (fun ls hl => ?_)
          refine lv_goto (tgt := 74) hx hb dX4_length_116 (by decide) ?_
          refine lv_iload hx hb dX4_length_74 (lv_at hl 0 rfl) ?_
          refine lv_iload hx hb dX4_length_76 (lv_at hl 2 rfl) ?_
          refine hl_icmp_gt (tgt := 119) hx hb dX4_length_78 (by decide) (by omega) (by omega) (fun c_10 => ?_) (fun c_10 => absurd c_10 (by decide))
          refine lv_iload hx hb dX4_length_119 (lv_at hl 1 rfl) ?_
          refine lv_iload hx hb dX4_length_121 (lv_at hl 2 rfl) ?_
          refine lv_iconst (v := nI 1) hx hb dX4_length_123 (by decide) ?_
          refine hl_icmp_ne (tgt := 133) hx hb dX4_length_124 (by decide) (by omega) (by omega) (fun c_11 => absurd c_11 (by decide)) (fun c_11 => ?_)
          refine lv_sipush (v := nI 128) hx hb dX4_length_127 (by decide) ?_
          refine lv_goto (tgt := 136) hx hb dX4_length_130 (by decide) ?_
          refine hl_icmp_ge (tgt := 148) hx hb dX4_length_136 (by decide) (by omega) (by omega) (fun c_12 => ?_) (fun c_12 => ?_)
          · refine lv_aload_n hx hb dX4_length_148 rfl (lv_at hl 5 rfl) ?_
            refine lv_iload_n hx hb dX4_length_149 rfl (lv_at hl 4 rfl) ?_
            refine lv_iconst (v := nI 1) hx hb dX4_length_150 (by decide) ?_
            refine hl_iadd hx hb dX4_length_151 ?_
            refine lv_iload hx hb dX4_length_152 (lv_at hl 2 rfl) ?_
            refine hl_iadd hx hb dX4_length_154 ?_
            refine va_put (D := (dC, dI)) (ci := 3) (v := .int (nI (((id + 1) + 1) + 1))) (ty := .int) (C := RX4) (T := TX4) (N := 22) hx hb hts hinX4 tyX4 tyX4_ok nmX4 hown hK hP hD hS 0 rfl rfl 12 (by decide) hf_72 (fun _ h9 => h9) rfl (by decide +kernel) rfl rfl (Nat.le_of_ble_eq_true rfl) dX4_length_155 (fun H locs hP hD hS => ?_)
            have hP : va_P (dC, dI) vwCl (wM cA m0 m1 m2 m3 m4 m5 m6 m7 m8 m9 cd row sz1 nd tg st ln pa rd of ar dp (((id + 1) + 1) + 1) rs fd pl tx ou wr op on dn) H := hP
            have hD : va_D A (wM cA m0 m1 m2 m3 m4 m5 m6 m7 m8 m9 cd row sz1 nd tg st ln pa rd of ar dp (((id + 1) + 1) + 1) rs fd pl tx ou wr op on dn) := hD
            refine lv_iload hx hb dX4_length_158 (lv_at hl 1 rfl) ?_
            have hP9 : va_P (dC, dI) vwCl (vX4_length cA m0 m1 m2 m3 m4 m5 m6 m7 m8 m9 cd row sz1 nd tg st ln pa rd of ar dp at_ rs fd pl tx ou wr op on dn id (((id + 1) + 1) + 1, rs, pl, 0 + (row ((id + 1) + 1)), ((id + 1) + 1) + 1)) _ := hP
            have hD9 : va_D A (vX4_length cA m0 m1 m2 m3 m4 m5 m6 m7 m8 m9 cd row sz1 nd tg st ln pa rd of ar dp at_ rs fd pl tx ou wr op on dn id (((id + 1) + 1) + 1, rs, pl, 0 + (row ((id + 1) + 1)), ((id + 1) + 1) + 1)) := hD
            have hq9 : pX4_length m0 m1 m2 m3 m4 m5 m6 m7 m8 m9 cd row sz1 nd tg st ln pa rd of ar dp at_ rs fd pl tx ou wr op on dn id (nI (0 + (row ((id + 1) + 1)))) (((id + 1) + 1) + 1, rs, pl, 0 + (row ((id + 1) + 1)), ((id + 1) + 1) + 1) := Or.inl ⟨by have hnum : numN row (id + 1 + 1) (row (id + 1) - 128) = 0 + (row ((id + 1) + 1)) := (by rw [e8]; show numN row (id + 1 + 1) 1 = _; simp [numN]); unfold lenS; rw [if_neg (by omega), if_neg (by omega), if_neg (by omega), if_neg (by omega), hnum, if_neg (fun z => z (by rw [e8]; exact (lenSz2 (by omega)).mpr (by omega)))]; rw [e8], rfl, rfl, rfl, rfl⟩
            exact W.iret (v := nI (0 + (row ((id + 1) + 1)))) hx hb hr (fun t ht hW => ⟨⟨nI (0 + (row ((id + 1) + 1))), (((id + 1) + 1) + 1, rs, pl, 0 + (row ((id + 1) + 1)), ((id + 1) + 1) + 1), rfl, hq9, by rw [ht]; exact hP9, va_K.moved hW.alike hK, hD9⟩, hS.F ht⟩) hS.2.2 dX4_length_160
          · refine lv_aload_n hx hb dX4_length_139 rfl (lv_at hl 5 rfl) ?_
            refine lv_bipush (v := (-3)) hx hb dX4_length_140 (by decide) ?_
            refine lv_iload_n hx hb dX4_length_142 rfl (lv_at hl 4 rfl) ?_
            refine cl_Vv (As := [.int (-3), .int (nI (id + 1))]) (rest := []) (wr := []) ⟨hx, hb, hml, hown, hts⟩ (k_X4_fail l dC dI cA m0 m1 m2 m3 m4 m5 m6 m7 m8 m9 cd row sz1 nd tg st ln pa rd of ar dp at_ rs fd pl tx ou wr op on dn (-3) (nI (id + 1)) _ ) (cwV 2 hts gX4_length_X4_fail rfl rfl rfl (by decide +kernel) ⟨Nat.le_of_ble_eq_true rfl, Nat.le_of_ble_eq_true rfl⟩) hK hP hD hS hA [0, 1, 2, 3, 4, 5, 6, 7, 8, 9] [] rfl rfl (by decide) (by decide) (by decide) (ci := 3) (q0 := 0) rfl rfl rfl rfl hl.1 rfl (Nat.le_of_ble_eq_true rfl) dX4_length_143 ⟨Nat.le_of_ble_eq_true rfl, Nat.le_of_ble_eq_true rfl⟩ (fun u_13 H locs hw_13 hP hD hS => ?_)
            obtain ⟨rs2_13, pl2_13⟩ := u_13
            have hP : va_P (dC, dI) vwCl (wM cA m0 m1 m2 m3 m4 m5 m6 m7 m8 m9 cd row sz1 nd tg st ln pa rd of ar dp at_ rs2_13 fd pl2_13 tx ou wr op on dn) H := hP
            have hD : va_D A (wM cA m0 m1 m2 m3 m4 m5 m6 m7 m8 m9 cd row sz1 nd tg st ln pa rd of ar dp at_ rs2_13 fd pl2_13 tx ou wr op on dn) := hD
            have hw_13 : rs2_13 = (-3) ∧ pl2_13 = (nI (id + 1)) := hw_13
            obtain ⟨e0_13, e1_13⟩ := hw_13
            have e0_13 := e0_13.symm
            subst e0_13
            have e1_13 := e1_13.symm
            subst e1_13
            refine lv_iconst (v := (-1)) hx hb dX4_length_146 (by decide) ?_
            have hP9 : va_P (dC, dI) vwCl (vX4_length cA m0 m1 m2 m3 m4 m5 m6 m7 m8 m9 cd row sz1 nd tg st ln pa rd of ar dp at_ rs fd pl tx ou wr op on dn id (at_, (-3), (nI (id + 1)), 0, 0)) _ := hP
            have hD9 : va_D A (vX4_length cA m0 m1 m2 m3 m4 m5 m6 m7 m8 m9 cd row sz1 nd tg st ln pa rd of ar dp at_ rs fd pl tx ou wr op on dn id (at_, (-3), (nI (id + 1)), 0, 0)) := hD
            have hq9 : pX4_length m0 m1 m2 m3 m4 m5 m6 m7 m8 m9 cd row sz1 nd tg st ln pa rd of ar dp at_ rs fd pl tx ou wr op on dn id ((-1)) (at_, (-3), (nI (id + 1)), 0, 0) := Or.inr ⟨by have hnum : numN row (id + 1 + 1) (row (id + 1) - 128) = 0 + (row ((id + 1) + 1)) := (by rw [e8]; show numN row (id + 1 + 1) 1 = _; simp [numN]); unfold lenS; rw [if_neg (by omega), if_neg (by omega), if_neg (by omega), if_neg (by omega), hnum, if_pos (by rw [e8]; intro z; have := (lenSz2 (by omega)).mp z; omega)], rfl, by decide, rfl⟩
            exact W.iret (v := (-1)) hx hb hr (fun t ht hW => ⟨⟨(-1), (at_, (-3), (nI (id + 1)), 0, 0), rfl, hq9, by rw [ht]; exact hP9, va_K.moved hW.alike hK, hD9⟩, hS.F ht⟩) hS.2.2 dX4_length_147
        · have e1_7 := e1_7.symm
          subst e1_7
          have hcut := hcut_7
          refine hl_if_eq (tgt := 95) hx hb dX4_length_90 (by decide) (by omega) (fun c_14 => absurd c_14 (by decide)) (fun c_14 => ?_)
          refine lv_iconst (v := (-1)) hx hb dX4_length_93 (by decide) ?_
          have hP9 : va_P (dC, dI) vwCl (vX4_length cA m0 m1 m2 m3 m4 m5 m6 m7 m8 m9 cd row sz1 nd tg st ln pa rd of ar dp at_ rs fd pl tx ou wr op on dn id (at_, rs2_7, pl2_7, 0, 0)) _ := hP
          have hD9 : va_D A (vX4_length cA m0 m1 m2 m3 m4 m5 m6 m7 m8 m9 cd row sz1 nd tg st ln pa rd of ar dp at_ rs fd pl tx ou wr op on dn id (at_, rs2_7, pl2_7, 0, 0)) := hD
          have hq9 : pX4_length m0 m1 m2 m3 m4 m5 m6 m7 m8 m9 cd row sz1 nd tg st ln pa rd of ar dp at_ rs fd pl tx ou wr op on dn id ((-1)) (at_, rs2_7, pl2_7, 0, 0) := Or.inr ⟨by unfold lenS; rw [if_neg (by omega), if_neg (by omega), if_neg (by omega), if_pos (by omega)]; exact congrArg _ hcut.symm, rfl, cutE_ne hcut, rfl⟩
          exact W.iret (v := (-1)) hx hb hr (fun t ht hW => ⟨⟨(-1), (at_, rs2_7, pl2_7, 0, 0), rfl, hq9, by rw [ht]; exact hP9, va_K.moved hW.alike hK, hD9⟩, hS.F ht⟩) hS.2.2 dX4_length_94
      · refine lv_iload_n hx hb dX4_length_45 rfl (lv_at hl 0 rfl) ?_
        refine lv_sipush (v := nI 130) hx hb dX4_length_46 (by decide) ?_
        refine hl_icmp_eq (tgt := 61) hx hb dX4_length_49 (by decide) (by omega) (by omega) (fun c_15 => ?_) (fun c_15 => ?_)
        · refine lv_iload_n hx hb dX4_length_61 rfl (lv_at hl 0 rfl) ?_
          refine lv_sipush (v := nI 128) hx hb dX4_length_62 (by decide) ?_
          refine hl_isub hx hb (by omega) dX4_length_65 ?_
          have e8 : row (id + 1) = 130 := by assumption
          refine hl_top (show nI (row (id + 1) - 128) = nI 2 by rw [e8]) ?_
          refine lv_istore (lv' := [(4, .int (nI 2)), (3, .int (nI (row (id + 1)))), (2, .int (nI (id + 1))), (0, .ref m0), (1, .int (nI id))]) hx hb dX4_length_66 hl (by decide) rfl (fun ls hl => ?_)
          refine lv_iconst (v := nI 0) hx hb dX4_length_68 (by decide) ?_
          refine lv_istore (lv' := [(5, .int (nI 0)), (4, .int (nI 2)), (3, .int (nI (row (id + 1)))), (2, .int (nI (id + 1))), (0, .ref m0), (1, .int (nI id))]) hx hb dX4_length_69 hl (by decide) rfl (fun ls hl => ?_)
          refine lv_iconst (v := nI 1) hx hb dX4_length_71 (by decide) ?_
          refine lv_istore (lv' := [(6, .int (nI 1)), (5, .int (nI 0)), (4, .int (nI 2)), (3, .int (nI (row (id + 1)))), (2, .int (nI (id + 1))), (0, .ref m0), (1, .int (nI id))]) hx hb dX4_length_72 hl (by decide) rfl (fun ls hl => ?_)
          refine lv_iload hx hb dX4_length_74 (lv_at hl 0 rfl) ?_
          refine lv_iload hx hb dX4_length_76 (lv_at hl 2 rfl) ?_
          refine hl_icmp_gt (tgt := 119) hx hb dX4_length_78 (by decide) (by omega) (by omega) (fun c_16 => absurd c_16 (by decide)) (fun c_16 => ?_)
          refine lv_aload_n hx hb dX4_length_81 rfl (lv_at hl 5 rfl) ?_
          refine lv_iload_n hx hb dX4_length_82 rfl (lv_at hl 4 rfl) ?_
          refine lv_iload hx hb dX4_length_83 (lv_at hl 0 rfl) ?_
          refine hl_iadd hx hb dX4_length_85 ?_
          refine lv_iload_n hx hb dX4_length_86 rfl (lv_at hl 6 rfl) ?_
          refine cl_Vi (As := [.int (nI ((id + 1) + 1)), .int (nI id)]) (rest := []) (wr := []) ⟨hx, hb, hml, hown, hts⟩ (k_X4_isMissing l dC dI cA m0 m1 m2 m3 m4 m5 m6 m7 m8 m9 cd row sz1 nd tg st ln pa rd of ar dp at_ rs fd pl tx ou wr op on dn ((id + 1) + 1) id _ hrow htg hst hln har (by omega) (by omega) (by omega)) (cwV 2 hts gX4_length_X4_isMissing rfl rfl rfl (by decide +kernel) ⟨Nat.le_of_ble_eq_true rfl, Nat.le_of_ble_eq_true rfl⟩) hK hP hD hS hA [0, 1, 2, 3, 4, 5, 6, 7, 8, 9] [] rfl rfl (by decide) (by decide) (by decide) (ci := 3) (q0 := 0) rfl rfl rfl rfl hl.1 rfl (Nat.le_of_ble_eq_true rfl) dX4_length_87 ⟨Nat.le_of_ble_eq_true rfl, Nat.le_of_ble_eq_true rfl⟩ (fun r_17 u_17 H locs hw_17 hP hD hS => ?_)
          obtain ⟨rs2_17, pl2_17⟩ := u_17
          have hP : va_P (dC, dI) vwCl (wM cA m0 m1 m2 m3 m4 m5 m6 m7 m8 m9 cd row sz1 nd tg st ln pa rd of ar dp at_ rs2_17 fd pl2_17 tx ou wr op on dn) H := hP
          have hD : va_D A (wM cA m0 m1 m2 m3 m4 m5 m6 m7 m8 m9 cd row sz1 nd tg st ln pa rd of ar dp at_ rs2_17 fd pl2_17 tx ou wr op on dn) := hD
          have hw_17 : (¬ limN sz1 dp ar st ln ≤ ((id + 1) + 1) ∧ r_17 = nI 0 ∧ rs2_17 = rs ∧ pl2_17 = pl) ∨ (limN sz1 dp ar st ln ≤ ((id + 1) + 1) ∧ r_17 = nI 1 ∧ (rs2_17, pl2_17) = cutE dp sz1 id) := hw_17
          rcases hw_17 with ⟨hms_17, e1_17, e2_17, e3_17⟩ | ⟨hms_17, e1_17, hcut_17⟩
          · have e1_17 := e1_17.symm
            subst e1_17
            have e2_17 := e2_17.symm
            subst e2_17
            have e3_17 := e3_17.symm
            subst e3_17
            refine hl_if_eq (tgt := 95) hx hb dX4_length_90 (by decide) (by omega) (fun c_18 => ?_) (fun c_18 => absurd c_18 (by decide))
            refine lv_sipush (v := nI 256) hx hb dX4_length_95 (by decide) ?_
            refine lv_iload hx hb dX4_length_98 (lv_at hl 1 rfl) ?_
            refine lv_imul hx hb dX4_length_100 ?_
            refine hl_top (show _ = nI 0 by decide) ?_
            refine lv_aload_n hx hb dX4_length_101 rfl (lv_at hl 5 rfl) ?_
            refine va_get (D := (dC, dI)) (ci := 3) (v := .ref m1) (C := RX4) (T := TX4) (N := 22) hx hb hts hinX4 hown hK hP 0 rfl rfl 1 (by decide) hf_7 (fun _ h9 => h9) rfl dX4_length_102 ?_
            refine lv_iload_n hx hb dX4_length_105 rfl (lv_at hl 4 rfl) ?_
            refine lv_iload hx hb dX4_length_106 (lv_at hl 0 rfl) ?_
            refine hl_iadd hx hb dX4_length_108 ?_
            refine hl_iald hx hb hK hP 1 0 rfl rfl (by omega) (by decide) dX4_length_109 ?_
            have hv_19 := hrow ((id + 1) + 1)
            refine hl_iadd hx hb dX4_length_110 ?_
            refine lv_istore (lv' := [(5, .int (nI (0 + (row ((id + 1) + 1))))), (6, .int (nI 1)), (4, .int (nI 2)), (3, .int (nI (row (id + 1)))), (2, .int (nI (id + 1))), (0, .ref m0), (1, .int (nI id))]) hx hb dX4_length_111 hl (by decide) rfl (fun ls hl => ?_)
            refine lv_iinc (v := (nI 2)) (lv' := [(6, .int (nI 2)), (5, .int (nI (0 + (row ((id + 1) + 1))))), (4, .int (nI 2)), (3, .int (nI (row (id + 1)))), (2, .int (nI (id + 1))), (0, .ref m0), (1, .int (nI id))]) hx hb dX4_length_113 hl (k := 1) rfl (by decide) (by decide) rfl (fun ls hl => ?_)
            refine lv_goto (tgt := 74) hx hb dX4_length_116 (by decide) ?_
            refine lv_iload hx hb dX4_length_74 (lv_at hl 0 rfl) ?_
            refine lv_iload hx hb dX4_length_76 (lv_at hl 2 rfl) ?_
            refine hl_icmp_gt (tgt := 119) hx hb dX4_length_78 (by decide) (by omega) (by omega) (fun c_20 => absurd c_20 (by decide)) (fun c_20 => ?_)
            refine lv_aload_n hx hb dX4_length_81 rfl (lv_at hl 5 rfl) ?_
            refine lv_iload_n hx hb dX4_length_82 rfl (lv_at hl 4 rfl) ?_
            refine lv_iload hx hb dX4_length_83 (lv_at hl 0 rfl) ?_
            refine hl_iadd hx hb dX4_length_85 ?_
            refine lv_iload_n hx hb dX4_length_86 rfl (lv_at hl 6 rfl) ?_
            refine cl_Vi (As := [.int (nI ((id + 1) + 2)), .int (nI id)]) (rest := []) (wr := []) ⟨hx, hb, hml, hown, hts⟩ (k_X4_isMissing l dC dI cA m0 m1 m2 m3 m4 m5 m6 m7 m8 m9 cd row sz1 nd tg st ln pa rd of ar dp at_ rs fd pl tx ou wr op on dn ((id + 1) + 2) id _ hrow htg hst hln har (by omega) (by omega) (by omega)) (cwV 2 hts gX4_length_X4_isMissing rfl rfl rfl (by decide +kernel) ⟨Nat.le_of_ble_eq_true rfl, Nat.le_of_ble_eq_true rfl⟩) hK hP hD hS hA [0, 1, 2, 3, 4, 5, 6, 7, 8, 9] [] rfl rfl (by decide) (by decide) (by decide) (ci := 3) (q0 := 0) rfl rfl rfl rfl hl.1 rfl (Nat.le_of_ble_eq_true rfl) dX4_length_87 ⟨Nat.le_of_ble_eq_true rfl, Nat.le_of_ble_eq_true rfl⟩ (fun r_21 u_21 H locs hw_21 hP hD hS => ?_)
            obtain ⟨rs2_21, pl2_21⟩ := u_21
            have hP : va_P (dC, dI) vwCl (wM cA m0 m1 m2 m3 m4 m5 m6 m7 m8 m9 cd row sz1 nd tg st ln pa rd of ar dp at_ rs2_21 fd pl2_21 tx ou wr op on dn) H := hP
            have hD : va_D A (wM cA m0 m1 m2 m3 m4 m5 m6 m7 m8 m9 cd row sz1 nd tg st ln pa rd of ar dp at_ rs2_21 fd pl2_21 tx ou wr op on dn) := hD
            have hw_21 : (¬ limN sz1 dp ar st ln ≤ ((id + 1) + 2) ∧ r_21 = nI 0 ∧ rs2_21 = rs ∧ pl2_21 = pl) ∨ (limN sz1 dp ar st ln ≤ ((id + 1) + 2) ∧ r_21 = nI 1 ∧ (rs2_21, pl2_21) = cutE dp sz1 id) := hw_21
            rcases hw_21 with ⟨hms_21, e1_21, e2_21, e3_21⟩ | ⟨hms_21, e1_21, hcut_21⟩
            · have e1_21 := e1_21.symm
              subst e1_21
              have e2_21 := e2_21.symm
              subst e2_21
              have e3_21 := e3_21.symm
              subst e3_21
              refine hl_if_eq (tgt := 95) hx hb dX4_length_90 (by decide) (by omega) (fun c_22 => ?_) (fun c_22 => absurd c_22 (by decide))
              refine lv_sipush (v := nI 256) hx hb dX4_length_95 (by decide) ?_
              refine lv_iload hx hb dX4_length_98 (lv_at hl 1 rfl) ?_
              refine hl_imul hx hb dX4_length_100 ?_
              refine lv_aload_n hx hb dX4_length_101 rfl (lv_at hl 5 rfl) ?_
              refine va_get (D := (dC, dI)) (ci := 3) (v := .ref m1) (C := RX4) (T := TX4) (N := 22) hx hb hts hinX4 hown hK hP 0 rfl rfl 1 (by decide) hf_7 (fun _ h9 => h9) rfl dX4_length_102 ?_
              refine lv_iload_n hx hb dX4_length_105 rfl (lv_at hl 4 rfl) ?_
              refine lv_iload hx hb dX4_length_106 (lv_at hl 0 rfl) ?_
              refine hl_iadd hx hb dX4_length_108 ?_
              refine hl_iald hx hb hK hP 1 0 rfl rfl (by omega) (by decide) dX4_length_109 ?_
              have hv_23 := hrow ((id + 1) + 2)
              refine hl_iadd hx hb dX4_length_110 ?_
              refine lv_istore (lv' := [(5, .int (nI ((256 * (0 + (row ((id + 1) + 1)))) + (row ((id + 1) + 2))))), (6, .int (nI 2)), (4, .int (nI 2)), (3, .int (nI (row (id + 1)))), (2, .int (nI (id + 1))), (0, .ref m0), (1, .int (nI id))]) hx hb dX4_length_111 hl (by decide) rfl (fun ls hl => ?_)
              refine lv_iinc (v := (nI 3)) (lv' := [(6, .int (nI 3)), (5, .int (nI ((256 * (0 + (row ((id + 1) + 1)))) + (row ((id + 1) + 2))))), (4, .int (nI 2)), (3, .int (nI (row (id + 1)))), (2, .int (nI (id + 1))), (0, .ref m0), (1, .int (nI id))]) hx hb dX4_length_113 hl (k := 1) rfl (by decide) (by decide) rfl (fun ls hl => ?_)
              refine lv_goto (tgt := 74) hx hb dX4_length_116 (by decide) ?_
              refine lv_iload hx hb dX4_length_74 (lv_at hl 0 rfl) ?_
              refine lv_iload hx hb dX4_length_76 (lv_at hl 2 rfl) ?_
              refine hl_icmp_gt (tgt := 119) hx hb dX4_length_78 (by decide) (by omega) (by omega) (fun c_24 => ?_) (fun c_24 => absurd c_24 (by decide))
              refine lv_iload hx hb dX4_length_119 (lv_at hl 1 rfl) ?_
              refine lv_iload hx hb dX4_length_121 (lv_at hl 2 rfl) ?_
              refine lv_iconst (v := nI 1) hx hb dX4_length_123 (by decide) ?_
              refine hl_icmp_ne (tgt := 133) hx hb dX4_length_124 (by decide) (by omega) (by omega) (fun c_25 => ?_) (fun c_25 => absurd c_25 (by decide))
              refine lv_sipush (v := nI 256) hx hb dX4_length_133 (by decide) ?_
              refine hl_icmp_ge (tgt := 148) hx hb dX4_length_136 (by decide) (by omega) (by omega) (fun c_26 => ?_) (fun c_26 => ?_)
              · refine lv_aload_n hx hb dX4_length_148 rfl (lv_at hl 5 rfl) ?_
                refine lv_iload_n hx hb dX4_length_149 rfl (lv_at hl 4 rfl) ?_
                refine lv_iconst (v := nI 1) hx hb dX4_length_150 (by decide) ?_
                refine hl_iadd hx hb dX4_length_151 ?_
                refine lv_iload hx hb dX4_length_152 (lv_at hl 2 rfl) ?_
                refine hl_iadd hx hb dX4_length_154 ?_
                refine va_put (D := (dC, dI)) (ci := 3) (v := .int (nI (((id + 1) + 1) + 2))) (ty := .int) (C := RX4) (T := TX4) (N := 22) hx hb hts hinX4 tyX4 tyX4_ok nmX4 hown hK hP hD hS 0 rfl rfl 12 (by decide) hf_72 (fun _ h9 => h9) rfl (by decide +kernel) rfl rfl (Nat.le_of_ble_eq_true rfl) dX4_length_155 (fun H locs hP hD hS => ?_)
                have hP : va_P (dC, dI) vwCl (wM cA m0 m1 m2 m3 m4 m5 m6 m7 m8 m9 cd row sz1 nd tg st ln pa rd of ar dp (((id + 1) + 1) + 2) rs fd pl tx ou wr op on dn) H := hP
                have hD : va_D A (wM cA m0 m1 m2 m3 m4 m5 m6 m7 m8 m9 cd row sz1 nd tg st ln pa rd of ar dp (((id + 1) + 1) + 2) rs fd pl tx ou wr op on dn) := hD
                refine lv_iload hx hb dX4_length_158 (lv_at hl 1 rfl) ?_
                have hP9 : va_P (dC, dI) vwCl (vX4_length cA m0 m1 m2 m3 m4 m5 m6 m7 m8 m9 cd row sz1 nd tg st ln pa rd of ar dp at_ rs fd pl tx ou wr op on dn id (((id + 1) + 1) + 2, rs, pl, (256 * (0 + (row ((id + 1) + 1)))) + (row ((id + 1) + 2)), ((id + 1) + 1) + 2)) _ := hP
                have hD9 : va_D A (vX4_length cA m0 m1 m2 m3 m4 m5 m6 m7 m8 m9 cd row sz1 nd tg st ln pa rd of ar dp at_ rs fd pl tx ou wr op on dn id (((id + 1) + 1) + 2, rs, pl, (256 * (0 + (row ((id + 1) + 1)))) + (row ((id + 1) + 2)), ((id + 1) + 1) + 2)) := hD
                have hq9 : pX4_length m0 m1 m2 m3 m4 m5 m6 m7 m8 m9 cd row sz1 nd tg st ln pa rd of ar dp at_ rs fd pl tx ou wr op on dn id (nI ((256 * (0 + (row ((id + 1) + 1)))) + (row ((id + 1) + 2)))) (((id + 1) + 1) + 2, rs, pl, (256 * (0 + (row ((id + 1) + 1)))) + (row ((id + 1) + 2)), ((id + 1) + 1) + 2) := Or.inl ⟨by have hnum : numN row (id + 1 + 1) (row (id + 1) - 128) = (256 * (0 + (row ((id + 1) + 1)))) + (row ((id + 1) + 2)) := (by rw [e8]; show numN row (id + 1 + 1) 2 = _; simp only [numN]; rw [show id + 1 + 1 + 0 = id + 1 + 1 from rfl, show id + 1 + 1 + 1 = id + 1 + 2 from rfl]; omega); unfold lenS; rw [if_neg (by omega), if_neg (by omega), if_neg (by omega), if_neg (by omega), hnum, if_neg (fun z => z (by rw [e8]; exact (lenSz3 _).mpr (by omega)))]; rw [e8], rfl, rfl, rfl, rfl⟩
                exact W.iret (v := nI ((256 * (0 + (row ((id + 1) + 1)))) + (row ((id + 1) + 2)))) hx hb hr (fun t ht hW => ⟨⟨nI ((256 * (0 + (row ((id + 1) + 1)))) + (row ((id + 1) + 2))), (((id + 1) + 1) + 2, rs, pl, (256 * (0 + (row ((id + 1) + 1)))) + (row ((id + 1) + 2)), ((id + 1) + 1) + 2), rfl, hq9, by rw [ht]; exact hP9, va_K.moved hW.alike hK, hD9⟩, hS.F ht⟩) hS.2.2 dX4_length_160
              · refine lv_aload_n hx hb dX4_length_139 rfl (lv_at hl 5 rfl) ?_
                refine lv_bipush (v := (-3)) hx hb dX4_length_140 (by decide) ?_
                refine lv_iload_n hx hb dX4_length_142 rfl (lv_at hl 4 rfl) ?_
                refine cl_Vv (As := [.int (-3), .int (nI (id + 1))]) (rest := []) (wr := []) ⟨hx, hb, hml, hown, hts⟩ (k_X4_fail l dC dI cA m0 m1 m2 m3 m4 m5 m6 m7 m8 m9 cd row sz1 nd tg st ln pa rd of ar dp at_ rs fd pl tx ou wr op on dn (-3) (nI (id + 1)) _ ) (cwV 2 hts gX4_length_X4_fail rfl rfl rfl (by decide +kernel) ⟨Nat.le_of_ble_eq_true rfl, Nat.le_of_ble_eq_true rfl⟩) hK hP hD hS hA [0, 1, 2, 3, 4, 5, 6, 7, 8, 9] [] rfl rfl (by decide) (by decide) (by decide) (ci := 3) (q0 := 0) rfl rfl rfl rfl hl.1 rfl (Nat.le_of_ble_eq_true rfl) dX4_length_143 ⟨Nat.le_of_ble_eq_true rfl, Nat.le_of_ble_eq_true rfl⟩ (fun u_27 H locs hw_27 hP hD hS => ?_)
                obtain ⟨rs2_27, pl2_27⟩ := u_27
                have hP : va_P (dC, dI) vwCl (wM cA m0 m1 m2 m3 m4 m5 m6 m7 m8 m9 cd row sz1 nd tg st ln pa rd of ar dp at_ rs2_27 fd pl2_27 tx ou wr op on dn) H := hP
                have hD : va_D A (wM cA m0 m1 m2 m3 m4 m5 m6 m7 m8 m9 cd row sz1 nd tg st ln pa rd of ar dp at_ rs2_27 fd pl2_27 tx ou wr op on dn) := hD
                have hw_27 : rs2_27 = (-3) ∧ pl2_27 = (nI (id + 1)) := hw_27
                obtain ⟨e0_27, e1_27⟩ := hw_27
                have e0_27 := e0_27.symm
                subst e0_27
                have e1_27 := e1_27.symm
                subst e1_27
                refine lv_iconst (v := (-1)) hx hb dX4_length_146 (by decide) ?_
                have hP9 : va_P (dC, dI) vwCl (vX4_length cA m0 m1 m2 m3 m4 m5 m6 m7 m8 m9 cd row sz1 nd tg st ln pa rd of ar dp at_ rs fd pl tx ou wr op on dn id (at_, (-3), (nI (id + 1)), 0, 0)) _ := hP
                have hD9 : va_D A (vX4_length cA m0 m1 m2 m3 m4 m5 m6 m7 m8 m9 cd row sz1 nd tg st ln pa rd of ar dp at_ rs fd pl tx ou wr op on dn id (at_, (-3), (nI (id + 1)), 0, 0)) := hD
                have hq9 : pX4_length m0 m1 m2 m3 m4 m5 m6 m7 m8 m9 cd row sz1 nd tg st ln pa rd of ar dp at_ rs fd pl tx ou wr op on dn id ((-1)) (at_, (-3), (nI (id + 1)), 0, 0) := Or.inr ⟨by have hnum : numN row (id + 1 + 1) (row (id + 1) - 128) = (256 * (0 + (row ((id + 1) + 1)))) + (row ((id + 1) + 2)) := (by rw [e8]; show numN row (id + 1 + 1) 2 = _; simp only [numN]; rw [show id + 1 + 1 + 0 = id + 1 + 1 from rfl, show id + 1 + 1 + 1 = id + 1 + 2 from rfl]; omega); unfold lenS; rw [if_neg (by omega), if_neg (by omega), if_neg (by omega), if_neg (by omega), hnum, if_pos (by rw [e8]; intro z; have := (lenSz3 _).mp z; omega)], rfl, by decide, rfl⟩
                exact W.iret (v := (-1)) hx hb hr (fun t ht hW => ⟨⟨(-1), (at_, (-3), (nI (id + 1)), 0, 0), rfl, hq9, by rw [ht]; exact hP9, va_K.moved hW.alike hK, hD9⟩, hS.F ht⟩) hS.2.2 dX4_length_147
            · have e1_21 := e1_21.symm
              subst e1_21
              have hcut := hcut_21
              refine hl_if_eq (tgt := 95) hx hb dX4_length_90 (by decide) (by omega) (fun c_28 => absurd c_28 (by decide)) (fun c_28 => ?_)
              refine lv_iconst (v := (-1)) hx hb dX4_length_93 (by decide) ?_
              have hP9 : va_P (dC, dI) vwCl (vX4_length cA m0 m1 m2 m3 m4 m5 m6 m7 m8 m9 cd row sz1 nd tg st ln pa rd of ar dp at_ rs fd pl tx ou wr op on dn id (at_, rs2_21, pl2_21, 0, 0)) _ := hP
              have hD9 : va_D A (vX4_length cA m0 m1 m2 m3 m4 m5 m6 m7 m8 m9 cd row sz1 nd tg st ln pa rd of ar dp at_ rs fd pl tx ou wr op on dn id (at_, rs2_21, pl2_21, 0, 0)) := hD
              have hq9 : pX4_length m0 m1 m2 m3 m4 m5 m6 m7 m8 m9 cd row sz1 nd tg st ln pa rd of ar dp at_ rs fd pl tx ou wr op on dn id ((-1)) (at_, rs2_21, pl2_21, 0, 0) := Or.inr ⟨by unfold lenS; rw [if_neg (by omega), if_neg (by omega), if_neg (by omega), if_pos (by omega)]; exact congrArg _ hcut.symm, rfl, cutE_ne hcut, rfl⟩
              exact W.iret (v := (-1)) hx hb hr (fun t ht hW => ⟨⟨(-1), (at_, rs2_21, pl2_21, 0, 0), rfl, hq9, by rw [ht]; exact hP9, va_K.moved hW.alike hK, hD9⟩, hS.F ht⟩) hS.2.2 dX4_length_94
          · have e1_17 := e1_17.symm
            subst e1_17
            have hcut := hcut_17
            refine hl_if_eq (tgt := 95) hx hb dX4_length_90 (by decide) (by omega) (fun c_29 => absurd c_29 (by decide)) (fun c_29 => ?_)
            refine lv_iconst (v := (-1)) hx hb dX4_length_93 (by decide) ?_
            have hP9 : va_P (dC, dI) vwCl (vX4_length cA m0 m1 m2 m3 m4 m5 m6 m7 m8 m9 cd row sz1 nd tg st ln pa rd of ar dp at_ rs fd pl tx ou wr op on dn id (at_, rs2_17, pl2_17, 0, 0)) _ := hP
            have hD9 : va_D A (vX4_length cA m0 m1 m2 m3 m4 m5 m6 m7 m8 m9 cd row sz1 nd tg st ln pa rd of ar dp at_ rs fd pl tx ou wr op on dn id (at_, rs2_17, pl2_17, 0, 0)) := hD
            have hq9 : pX4_length m0 m1 m2 m3 m4 m5 m6 m7 m8 m9 cd row sz1 nd tg st ln pa rd of ar dp at_ rs fd pl tx ou wr op on dn id ((-1)) (at_, rs2_17, pl2_17, 0, 0) := Or.inr ⟨by unfold lenS; rw [if_neg (by omega), if_neg (by omega), if_neg (by omega), if_pos (by omega)]; exact congrArg _ hcut.symm, rfl, cutE_ne hcut, rfl⟩
            exact W.iret (v := (-1)) hx hb hr (fun t ht hW => ⟨⟨(-1), (at_, rs2_17, pl2_17, 0, 0), rfl, hq9, by rw [ht]; exact hP9, va_K.moved hW.alike hK, hD9⟩, hS.F ht⟩) hS.2.2 dX4_length_94
        · refine lv_aload_n hx hb dX4_length_52 rfl (lv_at hl 2 rfl) ?_
          refine lv_bipush (v := (-3)) hx hb dX4_length_53 (by decide) ?_
          refine lv_iload_n hx hb dX4_length_55 rfl (lv_at hl 1 rfl) ?_
          refine cl_Vv (As := [.int (-3), .int (nI (id + 1))]) (rest := []) (wr := []) ⟨hx, hb, hml, hown, hts⟩ (k_X4_fail l dC dI cA m0 m1 m2 m3 m4 m5 m6 m7 m8 m9 cd row sz1 nd tg st ln pa rd of ar dp at_ rs fd pl tx ou wr op on dn (-3) (nI (id + 1)) _ ) (cwV 2 hts gX4_length_X4_fail rfl rfl rfl (by decide +kernel) ⟨Nat.le_of_ble_eq_true rfl, Nat.le_of_ble_eq_true rfl⟩) hK hP hD hS hA [0, 1, 2, 3, 4, 5, 6, 7, 8, 9] [] rfl rfl (by decide) (by decide) (by decide) (ci := 3) (q0 := 0) rfl rfl rfl rfl hl.1 rfl (Nat.le_of_ble_eq_true rfl) dX4_length_56 ⟨Nat.le_of_ble_eq_true rfl, Nat.le_of_ble_eq_true rfl⟩ (fun u_30 H locs hw_30 hP hD hS => ?_)
          obtain ⟨rs2_30, pl2_30⟩ := u_30
          have hP : va_P (dC, dI) vwCl (wM cA m0 m1 m2 m3 m4 m5 m6 m7 m8 m9 cd row sz1 nd tg st ln pa rd of ar dp at_ rs2_30 fd pl2_30 tx ou wr op on dn) H := hP
          have hD : va_D A (wM cA m0 m1 m2 m3 m4 m5 m6 m7 m8 m9 cd row sz1 nd tg st ln pa rd of ar dp at_ rs2_30 fd pl2_30 tx ou wr op on dn) := hD
          have hw_30 : rs2_30 = (-3) ∧ pl2_30 = (nI (id + 1)) := hw_30
          obtain ⟨e0_30, e1_30⟩ := hw_30
          have e0_30 := e0_30.symm
          subst e0_30
          have e1_30 := e1_30.symm
          subst e1_30
          refine lv_iconst (v := (-1)) hx hb dX4_length_59 (by decide) ?_
          have hP9 : va_P (dC, dI) vwCl (vX4_length cA m0 m1 m2 m3 m4 m5 m6 m7 m8 m9 cd row sz1 nd tg st ln pa rd of ar dp at_ rs fd pl tx ou wr op on dn id (at_, (-3), (nI (id + 1)), 0, 0)) _ := hP
          have hD9 : va_D A (vX4_length cA m0 m1 m2 m3 m4 m5 m6 m7 m8 m9 cd row sz1 nd tg st ln pa rd of ar dp at_ rs fd pl tx ou wr op on dn id (at_, (-3), (nI (id + 1)), 0, 0)) := hD
          have hq9 : pX4_length m0 m1 m2 m3 m4 m5 m6 m7 m8 m9 cd row sz1 nd tg st ln pa rd of ar dp at_ rs fd pl tx ou wr op on dn id ((-1)) (at_, (-3), (nI (id + 1)), 0, 0) := Or.inr ⟨by unfold lenS; rw [if_neg (by omega), if_pos (by omega)], rfl, by decide, rfl⟩
          exact W.iret (v := (-1)) hx hb hr (fun t ht hW => ⟨⟨(-1), (at_, (-3), (nI (id + 1)), 0, 0), rfl, hq9, by rw [ht]; exact hP9, va_K.moved hW.alike hK, hD9⟩, hS.F ht⟩) hS.2.2 dX4_length_60
    · refine lv_aload_n hx hb dX4_length_29 rfl (lv_at hl 2 rfl) ?_
      refine lv_iload_n hx hb dX4_length_30 rfl (lv_at hl 1 rfl) ?_
      refine lv_iconst (v := nI 1) hx hb dX4_length_31 (by decide) ?_
      refine hl_iadd hx hb dX4_length_32 ?_
      refine va_put (D := (dC, dI)) (ci := 3) (v := .int (nI ((id + 1) + 1))) (ty := .int) (C := RX4) (T := TX4) (N := 22) hx hb hts hinX4 tyX4 tyX4_ok nmX4 hown hK hP hD hS 0 rfl rfl 12 (by decide) hf_72 (fun _ h9 => h9) rfl (by decide +kernel) rfl rfl (Nat.le_of_ble_eq_true rfl) dX4_length_33 (fun H locs hP hD hS => ?_)
      have hP : va_P (dC, dI) vwCl (wM cA m0 m1 m2 m3 m4 m5 m6 m7 m8 m9 cd row sz1 nd tg st ln pa rd of ar dp ((id + 1) + 1) rs fd pl tx ou wr op on dn) H := hP
      have hD : va_D A (wM cA m0 m1 m2 m3 m4 m5 m6 m7 m8 m9 cd row sz1 nd tg st ln pa rd of ar dp ((id + 1) + 1) rs fd pl tx ou wr op on dn) := hD
      refine lv_iload_n hx hb dX4_length_36 rfl (lv_at hl 0 rfl) ?_
      have hP9 : va_P (dC, dI) vwCl (vX4_length cA m0 m1 m2 m3 m4 m5 m6 m7 m8 m9 cd row sz1 nd tg st ln pa rd of ar dp at_ rs fd pl tx ou wr op on dn id ((id + 1) + 1, rs, pl, row (id + 1), (id + 1) + 1)) _ := hP
      have hD9 : va_D A (vX4_length cA m0 m1 m2 m3 m4 m5 m6 m7 m8 m9 cd row sz1 nd tg st ln pa rd of ar dp at_ rs fd pl tx ou wr op on dn id ((id + 1) + 1, rs, pl, row (id + 1), (id + 1) + 1)) := hD
      have hq9 : pX4_length m0 m1 m2 m3 m4 m5 m6 m7 m8 m9 cd row sz1 nd tg st ln pa rd of ar dp at_ rs fd pl tx ou wr op on dn id (nI (row (id + 1))) ((id + 1) + 1, rs, pl, row (id + 1), (id + 1) + 1) := Or.inl ⟨by unfold lenS; rw [if_neg (by omega), if_neg (by omega), if_pos (by omega)], rfl, rfl, rfl, rfl⟩
      exact W.iret (v := nI (row (id + 1))) hx hb hr (fun t ht hW => ⟨⟨nI (row (id + 1)), ((id + 1) + 1, rs, pl, row (id + 1), (id + 1) + 1), rfl, hq9, by rw [ht]; exact hP9, va_K.moved hW.alike hK, hD9⟩, hS.F ht⟩) hS.2.2 dX4_length_37
  · have e1_1 := e1_1.symm
    subst e1_1
    have hcut := hcut_1
    refine hl_if_eq (tgt := 15) hx hb dX4_length_10 (by decide) (by omega) (fun c_31 => absurd c_31 (by decide)) (fun c_31 => ?_)
    refine lv_iconst (v := (-1)) hx hb dX4_length_13 (by decide) ?_
    have hP9 : va_P (dC, dI) vwCl (vX4_length cA m0 m1 m2 m3 m4 m5 m6 m7 m8 m9 cd row sz1 nd tg st ln pa rd of ar dp at_ rs fd pl tx ou wr op on dn id (at_, rs2_1, pl2_1, 0, 0)) _ := hP
    have hD9 : va_D A (vX4_length cA m0 m1 m2 m3 m4 m5 m6 m7 m8 m9 cd row sz1 nd tg st ln pa rd of ar dp at_ rs fd pl tx ou wr op on dn id (at_, rs2_1, pl2_1, 0, 0)) := hD
    have hq9 : pX4_length m0 m1 m2 m3 m4 m5 m6 m7 m8 m9 cd row sz1 nd tg st ln pa rd of ar dp at_ rs fd pl tx ou wr op on dn id ((-1)) (at_, rs2_1, pl2_1, 0, 0) := Or.inr ⟨by unfold lenS; rw [if_pos (by omega)]; exact congrArg _ hcut.symm, rfl, cutE_ne hcut, rfl⟩
    exact W.iret (v := (-1)) hx hb hr (fun t ht hW => ⟨⟨(-1), (at_, rs2_1, pl2_1, 0, 0), rfl, hq9, by rw [ht]; exact hP9, va_K.moved hW.alike hK, hD9⟩, hS.F ht⟩) hS.2.2 dX4_length_14
