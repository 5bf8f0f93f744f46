def bcA (x : Int32) : Int32 := x - (uS x (nI 1) &&& (1431655765))
def bcB (x : Int32) : Int32 := (x &&& (858993459)) + (uS x (nI 2) &&& (858993459))
def bcC (x : Int32) : Int32 := (x + uS x (nI 4)) &&& (252645135)
def bcD (x : Int32) : Int32 := x + uS x (nI 8)
def bcE (x : Int32) : Int32 := x + uS x (nI 16)
def bcI (x : Int32) : Int32 := bcE (bcD (bcC (bcB (bcA x)))) &&& nI 63
def fmR (x : Int32) : Int32 := x - x / nI 1013 * nI 1013
theorem fm_toInt {x : Int32} (h1 : -1073741824 < x.toInt) (h2 : x.toInt < 1073741824) : (fmR x).toInt = x.toInt.tmod 1013 := by
  have e1 : (x / nI 1013).toInt = x.toInt.tdiv 1013 := by
    rw [Int32.toInt_div]
    have e : (nI 1013).toInt = 1013 := by decide
    rw [e]
    have q := Int.tmod_add_tdiv_mul x.toInt 1013
    rw [Int.tmod_eq_emod] at q
    split at q <;> rw [Int.bmod_eq_of_le (by omega) (by omega)]
  have e2 : (x / nI 1013 * nI 1013).toInt = x.toInt.tdiv 1013 * 1013 := by
    rw [Int32.toInt_mul, e1]
    have e : (nI 1013).toInt = 1013 := by decide
    have q := Int.tmod_add_tdiv_mul x.toInt 1013
    rw [Int.tmod_eq_emod] at q
    split at q <;> rw [e, Int.bmod_eq_of_le (by omega) (by omega)]
  unfold fmR
  have q := Int.tmod_add_tdiv_mul x.toInt 1013
  have q2 := q
  rw [Int.tmod_eq_emod] at q2
  split at q2 <;> rw [Int32.toInt_sub, e2, Int.bmod_eq_of_le (by omega) (by omega)] <;> omega
theorem fm_emod {x : Int32} (h1 : -1073741824 < x.toInt) (h2 : x.toInt < 1073741824) : (0 ≤ x.toInt → (fmR x).toInt = x.toInt % 1013) ∧ (x.toInt < 0 → ((fmR x).toInt = 0 → x.toInt % 1013 = 0) ∧ ((fmR x).toInt ≠ 0 → (fmR x).toInt + 1013 = x.toInt % 1013)) := by
  rw [fm_toInt h1 h2, Int.tmod_eq_emod]
  split <;> omega
theorem xor_neg (x : Int32) : (x ^^^ nI 1013).toInt < 0 ↔ x.toInt < 0 := by
  have h : ∀ y : Int32, y.toInt < 0 ↔ y.toBitVec.msb = true := fun y => by
    rw [BitVec.msb_eq_toInt, decide_eq_true_eq]; rfl
  rw [h, h, Int32.toBitVec_xor, BitVec.msb_xor, show (nI 1013).toBitVec.msb = false by decide, Bool.xor_false]
theorem bP_nar {P : Prop} {r : Int32} (h : bP P r) : narrow .boolean (.int r) = .int r := by rcases h with ⟨-, rfl⟩ | ⟨-, rfl⟩ <;> rfl
-- signing: the places in their order behind the signer, the challenges there, the signer's response
theorem metF {l : Launch} {y : MethodName} {ws ws' : List Cond} {rm : Room} {Pc : Array Value → State → Prop} {Qc : Array Value → State → Outcome → State → Prop} {mc ms : Nat} {free : Addr → Prop} {cc : ByteArray} {maxL : Nat} {ret : Option FieldType}
    (hy : plainFor y = true) (hw : ws = Cond.code y cc maxL ret :: ws')
    (body : ∀ p e s m args below meth c s₁, BodyLoose p l y (headSpec ws rm) cc maxL ret e s m args below meth c s₁ → c.maxLocals = maxL → Pc args s →
      W p l e (headSpec ws rm).room s m args below meth c s.heap [] 0 0 (MQ below Qc args s mc ms free) (entryFrame m args maxL)) : Met l y ws rm Pc Qc mc ms free := by
  refine MetFree.of_bodySF (code := cc) (maxLocals := maxL) (ret := ret) hy ?_ ?_
  · intro args s m h hn
    obtain ⟨meth, c, h1, h2, h3, h4, h5, h6, -, -⟩ := Cond.code_spec hn (atoms_spec (ws := ws) h _ (by rw [hw]; exact List.mem_cons_self))
    exact ⟨meth, c, h1, h2, h3, h4, h5, h6⟩
  · intro p e s m args below meth c s₁ B hml hP _
    have hh0 : s₁.heap = s.heap := by rw [B.state]; rfl
    obtain ⟨t, a1, o, b1, b2, b3⟩ := body p e s m args below meth c s₁ B hml hP s₁ hh0 (Stand.of_body B)
    exact ⟨t, o, a1, b1, b2, ⟨b3.1, b3.2⟩⟩
def plN (z p k : Nat) : Nat := (p + 1 + k) % z
def snC (st : Int32) (B tg : Nat) (y : Nat → Int32) (s v mo : Int32) (z p u : Nat) : Nat → Nat
  | 0 => chN st (4 ^ u % 2027) (B ^ u % 2027)
  | k + 1 => stN st B tg (snC st B tg y s v mo z p u k) (vN (y (plN z p k))) (ncN s v mo (plN z p k))
def lsN (u m : Nat) : Nat := (u + 1013 - m % 1013) % 1013
theorem snC_lt (st : Int32) (B tg : Nat) (y : Nat → Int32) (s v mo : Int32) (z p u : Nat) : ∀ k, snC st B tg y s v mo z p u k < 1013
  | 0 => chN_lt _ _ _
  | _ + 1 => stN_lt _ _ _ _ _ _
theorem plN_lt {z p : Nat} (k : Nat) (h : 0 < z) : plN z p k < z := Nat.mod_lt _ h
theorem plN_succ {z p : Nat} (k : Nat) (h : 0 < z) : (if plN z p k + 1 < z then plN z p k + 1 else 0) = plN z p (k + 1) := by
  have h1 := plN_lt (p := p) k h
  have h2 : plN z p (k + 1) = (plN z p k + 1) % z := by
    unfold plN
    rw [Nat.mod_add_mod]
    rfl
  rw [h2]
  by_cases h3 : plN z p k + 1 < z
  · rw [if_pos h3, Nat.mod_eq_of_lt h3]
  · rw [if_neg h3, show plN z p k + 1 = z by omega, Nat.mod_self]
theorem plN_0 {z p : Nat} (h : p < z) : (if p + 1 < z then p + 1 else 0) = plN z p 0 := by
  unfold plN
  by_cases h3 : p + 1 < z
  · rw [if_pos h3]; exact (Nat.mod_eq_of_lt h3).symm
  · rw [if_neg h3, show p + 1 + 0 = z by omega, Nat.mod_self]
theorem plN_v {z p k : Nat} (hp : p < z) (hk : k < z) : plN z p k = if p + 1 + k < z then p + 1 + k else p + 1 + k - z := by
  unfold plN
  by_cases h : p + 1 + k < z
  · rw [if_pos h, Nat.mod_eq_of_lt h]
  · rw [if_neg h, Nat.mod_eq_sub_mod (by omega), Nat.mod_eq_of_lt (by omega)]
theorem plN_ne {z p k : Nat} (hp : p < z) (hk : k + 1 < z) : plN z p k ≠ p := by
  rw [plN_v hp (by omega)]
  split <;> omega
theorem plN_inj {z p j k : Nat} (hp : p < z) (hj : j < z) (hk : k < z) (e : plN z p j = plN z p k) : j = k := by
  rw [plN_v hp hj, plN_v hp hk] at e
  split at e <;> split at e <;> omega
theorem plN_z {z p k : Nat} (hp : p < z) (hk : k < z) : plN z p k = 0 ↔ k = z - 1 - p := by
  rw [plN_v hp hk]
  split <;> omega
theorem plN_sur {z p j : Nat} (hp : p < z) (hj : j < z) (hne : j ≠ p) : ∃ k, k + 1 < z ∧ plN z p k = j := by
  rcases Nat.lt_or_ge p j with h | h
  · exact ⟨j - p - 1, by omega, by rw [plN_v hp (by omega), if_pos (by omega)]; omega⟩
  · exact ⟨j + z - p - 1, by omega, by rw [plN_v hp (by omega), if_neg (by omega)]; omega⟩
theorem ls_eq {u m : Nat} (hu : u < 1013) : (((u : Int) - (m : Int)) % 1013).toNat = lsN u m := by unfold lsN; omega
theorem lsN_lt (u m : Nat) : lsN u m < 1013 := Nat.mod_lt _ (by decide)
/-- what signing leaves of a row of numbers -/
def sgN (z : Nat) (y : Nat → Int32) (v mo : Int32) (B sn p : Nat) (num : Nat → Int32) : Prop :=
  num 1 = nI (B ^ sn % 2027) ∧
  num 0 = nI (snC (stmI z y v mo (nI (B ^ sn % 2027))) B (B ^ sn % 2027) y (nI sn) v mo z p (ncN (nI sn) v mo p) (z - 1 - p)) ∧
  num (2 + p) = nI (lsN (ncN (nI sn) v mo p) (sn * snC (stmI z y v mo (nI (B ^ sn % 2027))) B (B ^ sn % 2027) y (nI sn) v mo z p (ncN (nI sn) v mo p) (z - 1))) ∧
  ∀ j, j < z → j ≠ p → num (2 + j) = nI (ncN (nI sn) v mo j)

set_option maxHeartbeats 4000000 in
set_option maxRecDepth 100000 in
/-- Integer.bitCount -/
theorem kJ6_bitCount_0f7a4 (l : Launch) {x : Int32} : Met l yJ6_bitCount_0f7a4 wsJ6_bitCount_0f7a4 ({ frames := 0, cells := 0, slots := 0, locals := 0 }) (va_Pc [.int x] (fun _ => True)) (vp_Si (fun r => r = bcI x)) 0 0 (fun _ => False) := by
  refine Met.ofW (cc := cJ6_bitCount_0f7a4) (maxL := 1) (ret := (some .int)) (by decide +kernel) rfl ?_
  intro p e s m args below meth c s₁ B hml hv
  obtain ⟨rfl, -⟩ := hv
  have hx := B.exec
  have hb := B.bytes
  have hr := B.returns
  have hts := atoms_spec (ws := wsJ6_bitCount_0f7a4) B.pre
  have hown : s.vm.findClass RJ6 = some m.cls := findClass_of_methodNamed B.named
  have hlocks := B.notSynchronized
  have hc265 : (Cond.constant RJ6 265 (1431655765)).before #[.int x] s = true := hts _ (by decide +kernel)
  have hc266 : (Cond.constant RJ6 266 (858993459)).before #[.int x] s = true := hts _ (by decide +kernel)
  have hc267 : (Cond.constant RJ6 267 (252645135)).before #[.int x] s = true := hts _ (by decide +kernel)
  have hl := lv_entry ([.int x]) (n := 1) (Nat.le_of_ble_eq_true rfl)
  rw [lg_entry_eq]
  generalize (lg_sl ([.int x]) ++ List.replicate (1 - (lg_sl ([.int x])).length) Slot.unset).toArray = ls at hl ⊢
  have hl : lv_has ls 1 [(0, .int x)] := hl
  refine lv_iload_n hx hb dJ6_bitCount_0f7a4_0 rfl (lv_at hl 0 rfl) ?_
  refine lv_iload_n hx hb dJ6_bitCount_0f7a4_1 rfl (lv_at hl 0 rfl) ?_
  refine lv_iconst (v := (nI 1)) hx hb dJ6_bitCount_0f7a4_2 (by decide) ?_
  refine lv_iushr (v := uS x (nI 1)) hx hb dJ6_bitCount_0f7a4_3 rfl ?_
  refine lv_ldcw hx hb hown hc265 dJ6_bitCount_0f7a4_4 ?_
  refine lv_iand hx hb dJ6_bitCount_0f7a4_7 ?_
  refine lv_isub hx hb dJ6_bitCount_0f7a4_8 ?_
  refine wr_top (y := (bcA x)) rfl ?_
  refine lv_istore_n (lv' := [(0, .int (bcA x))]) hx hb dJ6_bitCount_0f7a4_9 rfl hl (by decide) rfl (fun ls hl => ?_)
  refine lv_iload_n hx hb dJ6_bitCount_0f7a4_10 rfl (lv_at hl 0 rfl) ?_
  refine lv_ldcw hx hb hown hc266 dJ6_bitCount_0f7a4_11 ?_
  refine lv_iand hx hb dJ6_bitCount_0f7a4_14 ?_
  refine lv_iload_n hx hb dJ6_bitCount_0f7a4_15 rfl (lv_at hl 0 rfl) ?_
  refine lv_iconst (v := (nI 2)) hx hb dJ6_bitCount_0f7a4_16 (by decide) ?_
  refine lv_iushr (v := uS (bcA x) (nI 2)) hx hb dJ6_bitCount_0f7a4_17 rfl ?_
  refine lv_ldcw hx hb hown hc266 dJ6_bitCount_0f7a4_18 ?_
  refine lv_iand hx hb dJ6_bitCount_0f7a4_21 ?_
  refine lv_iadd hx hb dJ6_bitCount_0f7a4_22 ?_
  refine wr_top (y := (bcB (bcA x))) rfl ?_
  refine lv_istore_n (lv' := [(0, .int (bcB (bcA x)))]) hx hb dJ6_bitCount_0f7a4_23 rfl hl (by decide) rfl (fun ls hl => ?_)
  refine lv_iload_n hx hb dJ6_bitCount_0f7a4_24 rfl (lv_at hl 0 rfl) ?_
  refine lv_iload_n hx hb dJ6_bitCount_0f7a4_25 rfl (lv_at hl 0 rfl) ?_
  refine lv_iconst (v := (nI 4)) hx hb dJ6_bitCount_0f7a4_26 (by decide) ?_
  refine lv_iushr (v := uS (bcB (bcA x)) (nI 4)) hx hb dJ6_bitCount_0f7a4_27 rfl ?_
  refine lv_iadd hx hb dJ6_bitCount_0f7a4_28 ?_
  refine lv_ldcw hx hb hown hc267 dJ6_bitCount_0f7a4_29 ?_
  refine lv_iand hx hb dJ6_bitCount_0f7a4_32 ?_
  refine wr_top (y := (bcC (bcB (bcA x)))) rfl ?_
  refine lv_istore_n (lv' := [(0, .int (bcC (bcB (bcA x))))]) hx hb dJ6_bitCount_0f7a4_33 rfl hl (by decide) rfl (fun ls hl => ?_)
  refine lv_iload_n hx hb dJ6_bitCount_0f7a4_34 rfl (lv_at hl 0 rfl) ?_
  refine lv_iload_n hx hb dJ6_bitCount_0f7a4_35 rfl (lv_at hl 0 rfl) ?_
  refine lv_bipush (v := (nI 8)) hx hb dJ6_bitCount_0f7a4_36 (by decide) ?_
  refine lv_iushr (v := uS (bcC (bcB (bcA x))) (nI 8)) hx hb dJ6_bitCount_0f7a4_38 rfl ?_
  refine lv_iadd hx hb dJ6_bitCount_0f7a4_39 ?_
  refine wr_top (y := (bcD (bcC (bcB (bcA x))))) rfl ?_
  refine lv_istore_n (lv' := [(0, .int (bcD (bcC (bcB (bcA x)))))]) hx hb dJ6_bitCount_0f7a4_40 rfl hl (by decide) rfl (fun ls hl => ?_)
  refine lv_iload_n hx hb dJ6_bitCount_0f7a4_41 rfl (lv_at hl 0 rfl) ?_
  refine lv_iload_n hx hb dJ6_bitCount_0f7a4_42 rfl (lv_at hl 0 rfl) ?_
  refine lv_bipush (v := (nI 16)) hx hb dJ6_bitCount_0f7a4_43 (by decide) ?_
  refine lv_iushr (v := uS (bcD (bcC (bcB (bcA x)))) (nI 16)) hx hb dJ6_bitCount_0f7a4_45 rfl ?_
  refine lv_iadd hx hb dJ6_bitCount_0f7a4_46 ?_
  refine wr_top (y := (bcE (bcD (bcC (bcB (bcA x)))))) rfl ?_
  refine lv_istore_n (lv' := [(0, .int (bcE (bcD (bcC (bcB (bcA x))))))]) hx hb dJ6_bitCount_0f7a4_47 rfl hl (by decide) rfl (fun ls hl => ?_)
  refine lv_iload_n hx hb dJ6_bitCount_0f7a4_48 rfl (lv_at hl 0 rfl) ?_
  refine lv_bipush (v := (nI 63)) hx hb dJ6_bitCount_0f7a4_49 (by decide) ?_
  refine lv_iand hx hb dJ6_bitCount_0f7a4_51 ?_
  refine wr_top (y := (bcI x)) rfl ?_
  exact W.iret (v := (bcI x)) hx hb hr (fun t ht hW => ⟨(bcI x), rfl, rfl, ht⟩) (fun q h => nomatch h) dJ6_bitCount_0f7a4_52

set_option maxHeartbeats 4000000 in
set_option maxRecDepth 100000 in
/-- Math.floorMod by 1013 -/
theorem kJ9_floorMod_7cf53 (l : Launch) {x : Int32} (hx1 : -1073741824 < x.toInt) (hx2 : x.toInt < 1073741824) : Met l yJ9_floorMod_7cf53 wsJ9_floorMod_7cf53 ({ frames := 0, cells := 0, slots := 0, locals := 0 }) (va_Pc [.int x, .int (nI 1013)] (fun _ => True)) (vp_Si (fun r => r = nI (x.toInt % 1013).toNat)) 0 0 (fun _ => False) := by
  refine metF (cc := cJ9_floorMod_7cf53) (maxL := 3) (ret := (some .int)) (by decide +kernel) rfl ?_
  intro p e s m args below meth c s₁ B hml hv
  obtain ⟨rfl, -⟩ := hv
  have hx := B.exec
  have hb := B.bytes
  have hr := B.returns
  have hts := atoms_spec (ws := wsJ9_floorMod_7cf53) B.pre
  have hown : s.vm.findClass RJ9 = some m.cls := findClass_of_methodNamed B.named
  have hlocks := B.notSynchronized
  have hl := lv_entry ([.int x, .int (nI 1013)]) (n := 3) (Nat.le_of_ble_eq_true rfl)
  rw [lg_entry_eq]
  generalize (lg_sl ([.int x, .int (nI 1013)]) ++ List.replicate (3 - (lg_sl ([.int x, .int (nI 1013)])).length) Slot.unset).toArray = ls at hl ⊢
  have hl : lv_has ls 3 [(0, .int x), (1, .int (nI 1013))] := hl
  refine lv_iload_n hx hb dJ9_floorMod_7cf53_0 rfl (lv_at hl 0 rfl) ?_
  refine lv_iload_n hx hb dJ9_floorMod_7cf53_1 rfl (lv_at hl 1 rfl) ?_
  refine lv_irem hx hb dJ9_floorMod_7cf53_2 (by decide) ?_
  refine wr_top (y := (fmR x)) rfl ?_
  refine lv_istore_n (lv' := [(2, .int (fmR x)), (0, .int x), (1, .int (nI 1013))]) hx hb dJ9_floorMod_7cf53_3 rfl hl (by decide) rfl (fun ls hl => ?_)
  refine lv_iload_n hx hb dJ9_floorMod_7cf53_4 rfl (lv_at hl 1 rfl) ?_
  refine lv_iload_n hx hb dJ9_floorMod_7cf53_5 rfl (lv_at hl 2 rfl) ?_
  refine lv_ixor hx hb dJ9_floorMod_7cf53_6 ?_
  refine lv_if_ge (tgt := 18) hx hb dJ9_floorMod_7cf53_7 (by decide) (fun c_7 => ?_) (fun c_7 => ?_)
  · have c_7 := (o_ge0 _).mp c_7
    refine lv_iload_n hx hb dJ9_floorMod_7cf53_18 rfl (lv_at hl 0 rfl) ?_
    have h4 : ¬ x.toInt < 0 := fun q => by have := (xor_neg x).mpr q; omega
    have h5 := (fm_emod hx1 hx2).1 (by omega)
    exact W.iret (v := (fmR x)) hx hb hr (fun t ht hW => ⟨(fmR x), rfl, x_nI (by omega) (by omega), ht⟩) (fun q h => nomatch h) dJ9_floorMod_7cf53_19
  · have c_7 := mt (o_ge0 _).mpr c_7
    refine lv_iload_n hx hb dJ9_floorMod_7cf53_10 rfl (lv_at hl 0 rfl) ?_
    refine lv_if_eq (tgt := 18) hx hb dJ9_floorMod_7cf53_11 (by decide) (fun c_11 => ?_) (fun c_11 => ?_)
    · have c_11 := (o_eq0 _).mp c_11
      refine lv_iload_n hx hb dJ9_floorMod_7cf53_18 rfl (lv_at hl 0 rfl) ?_
      have h4 : x.toInt < 0 := (xor_neg x).mp (by omega)
      have h5 := ((fm_emod hx1 hx2).2 h4).1 c_11
      exact W.iret (v := (fmR x)) hx hb hr (fun t ht hW => ⟨(fmR x), rfl, x_nI (by omega) (by omega), ht⟩) (fun q h => nomatch h) dJ9_floorMod_7cf53_19
    · have c_11 := mt (o_eq0 _).mpr c_11
      refine lv_iload_n hx hb dJ9_floorMod_7cf53_14 rfl (lv_at hl 0 rfl) ?_
      refine lv_iload_n hx hb dJ9_floorMod_7cf53_15 rfl (lv_at hl 2 rfl) ?_
      refine lv_iadd hx hb dJ9_floorMod_7cf53_16 ?_
      have h1 := fm_toInt hx1 hx2
      have h4 : x.toInt < 0 := (xor_neg x).mp (by omega)
      have h5 := ((fm_emod hx1 hx2).2 h4).2 c_11
      have e9 : (fmR x + nI 1013).toInt = x.toInt % 1013 := by
        have e : (nI 1013).toInt = 1013 := by decide
        rw [Int32.toInt_add, e, Int.bmod_eq_of_le (by omega) (by omega)]
        exact h5
      exact W.iret (v := ((fmR x) + (nI 1013))) hx hb hr (fun t ht hW => ⟨((fmR x) + (nI 1013)), rfl, x_nI (by rw [e9]; omega) (by omega), ht⟩) (fun q h => nomatch h) dJ9_floorMod_7cf53_17

set_option maxHeartbeats 4000000 in
set_option maxRecDepth 100000 in
/-- KeyRow.has -/
theorem kX1_has (l : Launch) {D : va_G} {cy ad : Nat → Nat} {n : Nat} {M : Mm} {ex : va_W} {k z N : Nat} (hkr : isKR cy ad k N) (hk : k < n) (hk1 : k + 1 < n) (hz : M k 1 = nI z) (hN : N < 2 ^ 31) (hzN : z ≤ N) {x : Int32} : Met l yX1_has wsX1_has ({ frames := 1, cells := 0, slots := 0, locals := 23 }) (va_Pc [.ref (ad k), .int x] (RO D cy (wd cy ad n M ++ ex))) (vp_Si (fun r => bP (∃ j, j < z ∧ M (k + 1) j = x) r)) 0 0 (fun _ => False) := by
  refine Met.ofW (cc := cX1_has) (maxL := 2) (ret := (some .boolean)) (by decide +kernel) rfl ?_
  intro p e s m args below meth c s₁ B hml hv
  obtain ⟨rfl, hP, hE⟩ := hv
  have hx := B.exec
  have hb := B.bytes
  have hr := B.returns
  have hts := atoms_spec (ws := wsX1_has) B.pre
  have hown : s.vm.findClass RX1 = some m.cls := findClass_of_methodNamed B.named
  have hlocks := B.notSynchronized
  have hf13 : (Cond.fieldLink RX1 13 "RingPetition$KeyRow" "keys" "[I").before #[.ref (ad k), .int x] s = true := hts _ (by decide +kernel)
  have hf7 : (Cond.fieldLink RX1 7 "RingPetition$KeyRow" "size" "I").before #[.ref (ad k), .int x] s = true := hts _ (by decide +kernel)
  have hin_RX1 : ∀ w ∈ u_ws RX1 TX1 2, w ∈ wsX1_has := by decide +kernel
  have hl := lv_entry ([.ref (ad k), .int x]) (n := 2) (Nat.le_of_ble_eq_true rfl)
  rw [lg_entry_eq]
  generalize (lg_sl ([.ref (ad k), .int x]) ++ List.replicate (2 - (lg_sl ([.ref (ad k), .int x])).length) Slot.unset).toArray = ls at hl ⊢
  have hl : lv_has ls 2 [(0, .ref (ad k)), (1, .int x)] := hl
  refine lv_aload_n hx hb dX1_has_0 rfl (lv_at hl 0 rfl) ?_
  refine va_get (D := D) (ci := 1) (v := .int (M k 1)) (C := RX1) (T := TX1) (N := 2) hx hb hts hin_RX1 hown hE.1 hP k (wd_at (M := M) hk (hkr.1 _)) rfl 1 (by decide) hf7 (fun _ h9 => h9) rfl dX1_has_1 ?_
  refine wr_top (y := (nI z)) hz ?_
  refine lv_aload_n hx hb dX1_has_4 rfl (lv_at hl 0 rfl) ?_
  refine va_get (D := D) (ci := 1) (v := .ref (ad (k + 1))) (C := RX1) (T := TX1) (N := 2) hx hb hts hin_RX1 hown hE.1 hP k (wd_at (M := M) hk (hkr.1 _)) rfl 0 (by decide) hf13 (fun _ h9 => h9) rfl dX1_has_5 ?_
  refine lv_iload_n hx hb dX1_has_8 rfl (lv_at hl 1 rfl) ?_
  refine vp_callSi (W.runS (As := [.int (nI z), .ref (ad (k + 1)), .int x]) (rest := []) ⟨hx, hb, hml, hown, hts⟩ (kX2_isAmongFirst l (k0 := k + 1) hk1 hkr.2 hzN hN) (va_cwS 3 hts gX1_has_X2_isAmongFirst rfl rfl rfl (by decide +kernel) ⟨Nat.le_of_ble_eq_true rfl, Nat.le_of_ble_eq_true rfl⟩) (ro_ps hE hP) rfl rfl hl.1 rfl (lv_room (Nat.le_of_ble_eq_true rfl)) dX1_has_9 ⟨Nat.le_of_ble_eq_true rfl, Nat.le_of_ble_eq_true rfl⟩) (fun r_9 hr_9 => ?_)
  exact W.zret (v := r_9) hx hb hr (bP_nar hr_9) (fun t ht hW => ⟨r_9, rfl, hr_9, ht⟩) (fun q h => nomatch h) dX1_has_12

set_option maxHeartbeats 4000000 in
set_option maxRecDepth 100000 in
/-- KeyRow.add -/
theorem kX1_add (l : Launch) {D : va_G} {cy ad : Nat → Nat} {n : Nat} {M : Mm} {ex : va_W} {A : Nat → Prop} {k z N : Nat} (hD : ∀ M, va_D A (wd cy ad n M ++ ex)) (hkr : isKR cy ad k N) (hk : k < n) (hk1 : k + 1 < n) (hz : M k 1 = nI z) (hN : N < 2 ^ 31) (hzN : z < N) {x : Int32} : Met l yX1_add wsX1_add ({ frames := 0, cells := 0, slots := 0, locals := 0 }) (va_Pc [.ref (ad k), .int x] (RW D cy (wd cy ad n M ++ ex) A)) (va_Qv (S := Mm) (fun u => u = st (st M (k + 1) z x) k 1 (nI (z + 1))) (fun u t => va_P D vwCl (wd cy ad n u ++ ex) t.heap) A) 0 0 A := by
  refine Met.ofW (cc := cX1_add) (maxL := 2) (ret := none) (by decide +kernel) rfl ?_
  intro p e s m args below meth c s₁ B hml hv
  obtain ⟨rfl, hP, hE, hA⟩ := hv
  have hx := B.exec
  have hb := B.bytes
  have hr := B.returns
  have hts := atoms_spec (ws := wsX1_add) B.pre
  have hown : s.vm.findClass RX1 = some m.cls := findClass_of_methodNamed B.named
  have hlocks := B.notSynchronized
  have hf13 : (Cond.fieldLink RX1 13 "RingPetition$KeyRow" "keys" "[I").before #[.ref (ad k), .int x] s = true := hts _ (by decide +kernel)
  have hf7 : (Cond.fieldLink RX1 7 "RingPetition$KeyRow" "size" "I").before #[.ref (ad k), .int x] s = true := hts _ (by decide +kernel)
  have hin_RX1 : ∀ w ∈ u_ws RX1 TX1 2, w ∈ wsX1_add := by decide +kernel
  have hS : va_S A s.heap s.heap [] := va_S.rf
  have hl := lv_entry ([.ref (ad k), .int x]) (n := 2) (Nat.le_of_ble_eq_true rfl)
  rw [lg_entry_eq]
  generalize (lg_sl ([.ref (ad k), .int x]) ++ List.replicate (2 - (lg_sl ([.ref (ad k), .int x])).length) Slot.unset).toArray = ls at hl ⊢
  have hl : lv_has ls 2 [(0, .ref (ad k)), (1, .int x)] := hl
  refine lv_aload_n hx hb dX1_add_0 rfl (lv_at hl 0 rfl) ?_
  refine va_get (D := D) (ci := 1) (v := .int (M k 1)) (C := RX1) (T := TX1) (N := 2) hx hb hts hin_RX1 hown hE.1 hP k (wd_at (M := M) hk (hkr.1 _)) rfl 1 (by decide) hf7 (fun _ h9 => h9) rfl dX1_add_1 ?_
  refine wr_top (y := (nI z)) hz ?_
  refine lv_aload_n hx hb dX1_add_4 rfl (lv_at hl 0 rfl) ?_
  refine va_get (D := D) (ci := 1) (v := .ref (ad (k + 1))) (C := RX1) (T := TX1) (N := 2) hx hb hts hin_RX1 hown hE.1 hP k (wd_at (M := M) hk (hkr.1 _)) rfl 0 (by decide) hf13 (fun _ h9 => h9) rfl dX1_add_5 ?_
  refine va_alen (D := D) (cl := vwCl) hx hb hE.1 hP (k + 1) 0 (wd_at (M := M) hk1 (hkr.2 _)) rfl (v := (nI N)) rfl dX1_add_8 ?_
  refine lv_icmp_ge (tgt := 32) hx hb dX1_add_9 (by decide) (fun c_9 => ?_) (fun c_9 => ?_)
  · have c_9 := (nI_leI (by omega) (by omega)).mp c_9
    exfalso; omega
  · have c_9 := mt (nI_leI (by omega) (by omega)).mpr c_9
    refine lv_aload_n hx hb dX1_add_12 rfl (lv_at hl 0 rfl) ?_
    refine va_get (D := D) (ci := 1) (v := .ref (ad (k + 1))) (C := RX1) (T := TX1) (N := 2) hx hb hts hin_RX1 hown hE.1 hP k (wd_at (M := M) hk (hkr.1 _)) rfl 0 (by decide) hf13 (fun _ h9 => h9) rfl dX1_add_13 ?_
    refine lv_aload_n hx hb dX1_add_16 rfl (lv_at hl 0 rfl) ?_
    refine va_get (D := D) (ci := 1) (v := .int (M k 1)) (C := RX1) (T := TX1) (N := 2) hx hb hts hin_RX1 hown hE.1 hP k (wd_at (M := M) hk (hkr.1 _)) rfl 1 (by decide) hf7 (fun _ h9 => h9) rfl dX1_add_17 ?_
    refine wr_top (y := (nI z)) hz ?_
    refine lv_iload_n hx hb dX1_add_20 rfl (lv_at hl 1 rfl) ?_
    refine wr_ast (cy := cy) (ad := ad) (ex := ex) hx hb hE.1 hP hD hS (k + 1) hk1 hkr.2 z rfl (by omega) hN dX1_add_21 (fun H locs hP hS => ?_)
    refine lv_aload_n hx hb dX1_add_22 rfl (lv_at hl 0 rfl) ?_
    refine lv_dup hx hb dX1_add_23 rfl ?_
    refine va_get (D := D) (ci := 1) (v := .int ((st M (k + 1) z x) k 1)) (C := RX1) (T := TX1) (N := 2) hx hb hts hin_RX1 hown hE.1 hP k (wd_at (M := (st M (k + 1) z x)) hk (hkr.1 _)) rfl 1 (by decide) hf7 (fun _ h9 => h9) rfl dX1_add_24 ?_
    refine wr_top (y := (nI z)) (by rw [st_r _ _ _ (show k ≠ k + 1 by omega)]; exact hz) ?_
    refine lv_iconst (v := (nI 1)) hx hb dX1_add_27 (by decide) ?_
    refine lv_iadd hx hb dX1_add_28 ?_
    refine wr_top (y := (nI (z + 1))) (nI_add _ _) ?_
    refine wr_put (cy := cy) (ad := ad) (ex := ex) (ci := 1) (C := RX1) (T := TX1) (N := 2) (ty := .int) hx hb hts hin_RX1 tyX1 tyX1_ok nmX1 hown hE.1 hP hD hS k hk (hkr.1 _) rfl 1 (by decide) hf7 (fun _ h9 => h9) rfl (by decide +kernel) rfl rfl (by simp) ((hkr.1 _).trans (by simp [st_at])) dX1_add_29 (fun H locs hP hS => ?_)
    exact W.vret hx hb hr (fun t ht hW => ⟨⟨(st (st M (k + 1) z x) k 1 (nI (z + 1))), rfl, rfl, (by show va_P D vwCl _ t.heap; rw [ht]; exact hP)⟩, hS.F ht⟩) hS.2.2 dX1_add_32

set_option maxHeartbeats 4000000 in
set_option maxRecDepth 100000 in
/-- Signature.resize -/
theorem kX3_resize (l : Launch) {D : va_G} {cy ad : Nat → Nat} {n : Nat} {M : Mm} {ex : va_W} {A : Nat → Prop} {kg : Nat} (hD : ∀ M, va_D A (wd cy ad n M ++ ex)) (hsg : isSg cy ad kg) (hkg : kg < n) (hkg1 : kg + 1 < n) {z : Nat} : Met l yX3_resize wsX3_resize ({ frames := 0, cells := 0, slots := 0, locals := 0 }) (va_Pc [.ref (ad kg), .int (nI z)] (RW D cy (wd cy ad n M ++ ex) A)) (va_Qv (S := Mm) (fun u => u = st M kg 1 (nI (2 + z))) (fun u t => va_P D vwCl (wd cy ad n u ++ ex) t.heap) A) 0 0 A := by
  refine Met.ofW (cc := cX3_resize) (maxL := 2) (ret := none) (by decide +kernel) rfl ?_
  intro p e s m args below meth c s₁ B hml hv
  obtain ⟨rfl, hP, hE, hA⟩ := hv
  have hx := B.exec
  have hb := B.bytes
  have hr := B.returns
  have hts := atoms_spec (ws := wsX3_resize) B.pre
  have hown : s.vm.findClass RX3 = some m.cls := findClass_of_methodNamed B.named
  have hlocks := B.notSynchronized
  have hf15 : (Cond.fieldLink RX3 15 "RingPetition$Signature" "size" "I").before #[.ref (ad kg), .int (nI z)] s = true := hts _ (by decide +kernel)
  have hin_RX3 : ∀ w ∈ u_ws RX3 TX3 4, w ∈ wsX3_resize := by decide +kernel
  have hS : va_S A s.heap s.heap [] := va_S.rf
  have hl := lv_entry ([.ref (ad kg), .int (nI z)]) (n := 2) (Nat.le_of_ble_eq_true rfl)
  rw [lg_entry_eq]
  generalize (lg_sl ([.ref (ad kg), .int (nI z)]) ++ List.replicate (2 - (lg_sl ([.ref (ad kg), .int (nI z)])).length) Slot.unset).toArray = ls at hl ⊢
  have hl : lv_has ls 2 [(0, .ref (ad kg)), (1, .int (nI z))] := hl
  refine lv_aload_n hx hb dX3_resize_0 rfl (lv_at hl 0 rfl) ?_
  refine lv_iconst (v := (nI 2)) hx hb dX3_resize_1 (by decide) ?_
  refine lv_iload_n hx hb dX3_resize_2 rfl (lv_at hl 1 rfl) ?_
  refine lv_iadd hx hb dX3_resize_3 ?_
  refine wr_top (y := (nI (2 + z))) (nI_add _ _) ?_
  refine wr_put (cy := cy) (ad := ad) (ex := ex) (ci := 2) (C := RX3) (T := TX3) (N := 4) (ty := .int) hx hb hts hin_RX3 tyX3 tyX3_ok nmX3 hown hE.1 hP hD hS kg hkg (hsg.1 _) rfl 1 (by decide) hf15 (fun _ h9 => h9) rfl (by decide +kernel) rfl rfl (by simp) ((hsg.1 _).trans (by simp [st_at])) dX3_resize_4 (fun H locs hP hS => ?_)
  exact W.vret hx hb hr (fun t ht hW => ⟨⟨(st M kg 1 (nI (2 + z))), rfl, rfl, (by show va_P D vwCl _ t.heap; rw [ht]; exact hP)⟩, hS.F ht⟩) hS.2.2 dX3_resize_7

set_option maxHeartbeats 4000000 in
set_option maxRecDepth 100000 in
/-- Signature.hasNumber -/
theorem kX3_hasNumber (l : Launch) {D : va_G} {cy ad : Nat → Nat} {n : Nat} {M : Mm} {ex : va_W} {kg : Nat} (hsg : isSg cy ad kg) (hkg : kg < n) (hkg1 : kg + 1 < n) {d : Nat} (hd : M kg 1 = nI d) (hd8 : d ≤ 8) {x : Int32} : Met l yX3_hasNumber wsX3_hasNumber ({ frames := 0, cells := 0, slots := 0, locals := 0 }) (va_Pc [.ref (ad kg), .int x] (RO D cy (wd cy ad n M ++ ex))) (vp_Si (fun r => bP (0 ≤ x.toInt ∧ x.toInt < (d : Int)) r)) 0 0 (fun _ => False) := by
  refine Met.ofW (cc := cX3_hasNumber) (maxL := 2) (ret := (some .boolean)) (by decide +kernel) rfl ?_
  intro p e s m args below meth c s₁ B hml hv
  obtain ⟨rfl, hP, hE⟩ := hv
  have hx := B.exec
  have hb := B.bytes
  have hr := B.returns
  have hts := atoms_spec (ws := wsX3_hasNumber) B.pre
  have hown : s.vm.findClass RX3 = some m.cls := findClass_of_methodNamed B.named
  have hlocks := B.notSynchronized
  have hf15 : (Cond.fieldLink RX3 15 "RingPetition$Signature" "size" "I").before #[.ref (ad kg), .int x] s = true := hts _ (by decide +kernel)
  have hin_RX3 : ∀ w ∈ u_ws RX3 TX3 4, w ∈ wsX3_hasNumber := by decide +kernel
  have hl := lv_entry ([.ref (ad kg), .int x]) (n := 2) (Nat.le_of_ble_eq_true rfl)
  rw [lg_entry_eq]
  generalize (lg_sl ([.ref (ad kg), .int x]) ++ List.replicate (2 - (lg_sl ([.ref (ad kg), .int x])).length) Slot.unset).toArray = ls at hl ⊢
  have hl : lv_has ls 2 [(0, .ref (ad kg)), (1, .int x)] := hl
  refine lv_iload_n hx hb dX3_hasNumber_0 rfl (lv_at hl 1 rfl) ?_
  refine lv_if_lt (tgt := 16) hx hb dX3_hasNumber_1 (by decide) (fun c_1 => ?_) (fun c_1 => ?_)
  · have c_1 := (o_lt0 _).mp c_1
    refine lv_iconst (v := (nI 0)) hx hb dX3_hasNumber_16 (by decide) ?_
    exact W.zret (v := (nI 0)) hx hb hr rfl (fun t ht hW => ⟨(nI 0), rfl, (bP_0 (by rintro ⟨h1, h2⟩; omega)), ht⟩) (fun q h => nomatch h) dX3_hasNumber_17
  · have c_1 := mt (o_lt0 _).mpr c_1
    refine lv_iload_n hx hb dX3_hasNumber_4 rfl (lv_at hl 1 rfl) ?_
    refine lv_aload_n hx hb dX3_hasNumber_5 rfl (lv_at hl 0 rfl) ?_
    refine va_get (D := D) (ci := 2) (v := .int (M kg 1)) (C := RX3) (T := TX3) (N := 4) hx hb hts hin_RX3 hown hE.1 hP kg (wd_at (M := M) hkg (hsg.1 _)) rfl 1 (by decide) hf15 (fun _ h9 => h9) rfl dX3_hasNumber_6 ?_
    refine wr_top (y := (nI d)) hd ?_
    refine lv_icmp_ge (tgt := 16) hx hb dX3_hasNumber_9 (by decide) (fun c_9 => ?_) (fun c_9 => ?_)
    · have c_9 := (o_le (by omega) _).mp c_9
      refine lv_iconst (v := (nI 0)) hx hb dX3_hasNumber_16 (by decide) ?_
      exact W.zret (v := (nI 0)) hx hb hr rfl (fun t ht hW => ⟨(nI 0), rfl, (bP_0 (by rintro ⟨h1, h2⟩; omega)), ht⟩) (fun q h => nomatch h) dX3_hasNumber_17
    · have c_9 := mt (o_le (by omega) _).mpr c_9
      refine lv_iconst (v := (nI 1)) hx hb dX3_hasNumber_12 (by decide) ?_
      refine lv_goto (tgt := 17) hx hb dX3_hasNumber_13 (by decide) ?_
      exact W.zret (v := (nI 1)) hx hb hr rfl (fun t ht hW => ⟨(nI 1), rfl, (bP_1 (by constructor <;> omega)), ht⟩) (fun q h => nomatch h) dX3_hasNumber_17

set_option maxHeartbeats 4000000 in
set_option maxRecDepth 100000 in
/-- Signature.copyNumbers -/
theorem kX3_copyNumbers (l : Launch) {D : va_G} {cy ad : Nat → Nat} {n : Nat} {M : Mm} {ex : va_W} {A : Nat → Prop} {kg : Nat} (hD : ∀ M, va_D A (wd cy ad n M ++ ex)) (hsg : isSg cy ad kg) (hkg : kg < n) (hkg1 : kg + 1 < n) {kh d : Nat} (hsh : isSg cy ad kh) (hkh : kh < n) (hkh1 : kh + 1 < n) (hne : kh ≠ kg) (hd : M kh 1 = nI d) (hd8 : d ≤ 8) : Met l yX3_copyNumbers wsX3_copyNumbers ({ frames := 1, cells := 0, slots := 0, locals := 60 }) (va_Pc [.ref (ad kg), .ref (ad kh)] (RW D cy (wd cy ad n M ++ ex) A)) (va_Qv (S := Mm) (fun u => u = va_up (st M kg 1 (nI d)) (kg + 1) (va_cpy (st M kg 1 (nI d) (kh + 1)) (st M kg 1 (nI d) (kg + 1)) 0 0 d)) (fun u t => va_P D vwCl (wd cy ad n u ++ ex) t.heap) A) 0 0 A := by
  refine Met.ofW (cc := cX3_copyNumbers) (maxL := 2) (ret := none) (by decide +kernel) rfl ?_
  intro p e s m args below meth c s₁ B hml hv
  obtain ⟨rfl, hP, hE, hA⟩ := hv
  have hx := B.exec
  have hb := B.bytes
  have hr := B.returns
  have hts := atoms_spec (ws := wsX3_copyNumbers) B.pre
  have hown : s.vm.findClass RX3 = some m.cls := findClass_of_methodNamed B.named
  have hlocks := B.notSynchronized
  have hf15 : (Cond.fieldLink RX3 15 "RingPetition$Signature" "size" "I").before #[.ref (ad kg), .ref (ad kh)] s = true := hts _ (by decide +kernel)
  have hf9 : (Cond.fieldLink RX3 9 "RingPetition$Signature" "numbers" "[I").before #[.ref (ad kg), .ref (ad kh)] s = true := hts _ (by decide +kernel)
  have hin_RX3 : ∀ w ∈ u_ws RX3 TX3 4, w ∈ wsX3_copyNumbers := by decide +kernel
  have hS : va_S A s.heap s.heap [] := va_S.rf
  have hl := lv_entry ([.ref (ad kg), .ref (ad kh)]) (n := 2) (Nat.le_of_ble_eq_true rfl)
  rw [lg_entry_eq]
  generalize (lg_sl ([.ref (ad kg), .ref (ad kh)]) ++ List.replicate (2 - (lg_sl ([.ref (ad kg), .ref (ad kh)])).length) Slot.unset).toArray = ls at hl ⊢
  have hl : lv_has ls 2 [(0, .ref (ad kg)), (1, .ref (ad kh))] := hl
  refine lv_aload_n hx hb dX3_copyNumbers_0 rfl (lv_at hl 0 rfl) ?_
  refine lv_aload_n hx hb dX3_copyNumbers_1 rfl (lv_at hl 1 rfl) ?_
  refine va_get (D := D) (ci := 2) (v := .int (M kh 1)) (C := RX3) (T := TX3) (N := 4) hx hb hts hin_RX3 hown hE.1 hP kh (wd_at (M := M) hkh (hsh.1 _)) rfl 1 (by decide) hf15 (fun _ h9 => h9) rfl dX3_copyNumbers_2 ?_
  refine wr_top (y := (nI d)) hd ?_
  refine wr_put (cy := cy) (ad := ad) (ex := ex) (ci := 2) (C := RX3) (T := TX3) (N := 4) (ty := .int) hx hb hts hin_RX3 tyX3 tyX3_ok nmX3 hown hE.1 hP hD hS kg hkg (hsg.1 _) rfl 1 (by decide) hf15 (fun _ h9 => h9) rfl (by decide +kernel) rfl rfl (by simp) ((hsg.1 _).trans (by simp [st_at])) dX3_copyNumbers_5 (fun H locs hP hS => ?_)
  refine lv_aload_n hx hb dX3_copyNumbers_8 rfl (lv_at hl 1 rfl) ?_
  refine va_get (D := D) (ci := 2) (v := .ref (ad (kh + 1))) (C := RX3) (T := TX3) (N := 4) hx hb hts hin_RX3 hown hE.1 hP kh (wd_at (M := (st M kg 1 (nI d))) hkh (hsh.1 _)) rfl 0 (by decide) hf9 (fun _ h9 => h9) rfl dX3_copyNumbers_9 ?_
  refine lv_iconst (v := (nI 0)) hx hb dX3_copyNumbers_12 (by decide) ?_
  refine lv_aload_n hx hb dX3_copyNumbers_13 rfl (lv_at hl 0 rfl) ?_
  refine va_get (D := D) (ci := 2) (v := .ref (ad (kg + 1))) (C := RX3) (T := TX3) (N := 4) hx hb hts hin_RX3 hown hE.1 hP kg (wd_at (M := (st M kg 1 (nI d))) hkg (hsg.1 _)) rfl 0 (by decide) hf9 (fun _ h9 => h9) rfl dX3_copyNumbers_14 ?_
  refine lv_iconst (v := (nI 0)) hx hb dX3_copyNumbers_17 (by decide) ?_
  refine lv_aload_n hx hb dX3_copyNumbers_18 rfl (lv_at hl 1 rfl) ?_
  refine va_get (D := D) (ci := 2) (v := .int ((st M kg 1 (nI d)) kh 1)) (C := RX3) (T := TX3) (N := 4) hx hb hts hin_RX3 hown hE.1 hP kh (wd_at (M := (st M kg 1 (nI d))) hkh (hsh.1 _)) rfl 1 (by decide) hf15 (fun _ h9 => h9) rfl dX3_copyNumbers_19 ?_
  refine wr_top (y := (nI d)) (by rw [st_r _ _ _ hne]; exact hd) ?_
  have hl25 : (Cond.methodLink RX3 25 arraycopyName).before #[.ref (ad kg), .ref (ad kh)] s = true := hts _ (by decide +kernel)
  have hnat : (Cond.native arraycopyName).before #[.ref (ad kg), .ref (ad kh)] s = true := hts _ (by decide +kernel)
  have hstt : (Cond.static arraycopyName).before #[.ref (ad kg), .ref (ad kh)] s = true := hts _ (by decide +kernel)
  have hini : (Cond.initialized "java/lang/System").before #[.ref (ad kg), .ref (ad kh)] s = true := hts _ (by decide +kernel)
  refine va_copyi (D := D) (cl := vwCl) hx hb (by rw [hml]; exact hl.1.symm) hown hl25 hnat hstt hini hE.1 hP (hD _) hS (kh + 1) (kg + 1) 0 0 (wd_at hkh1 (hsh.2 _)) (wd_at hkg1 (hsg.2 _)) rfl rfl rfl (nI_pos (by decide)) (nI_pos (by decide)) (nI_pos (by omega)) (by rw [nI_clamp (n := 0) (by decide), nI_clamp (n := d) (by omega)]; omega) (by rw [nI_clamp (n := 0) (by decide), nI_clamp (n := d) (by omega)]; omega) (fun i hi => rfl) (Nat.le_of_ble_eq_true rfl) (Nat.le_of_ble_eq_true rfl) dX3_copyNumbers_22 (fun H locs hP _ hS => ?_)
  rw [nI_clamp (n := 0) (by decide), nI_clamp (n := d) (by omega), wd_up hkg1 (hsg.2 _)] at hP
  exact W.vret hx hb hr (fun t ht hW => ⟨⟨(va_up (st M kg 1 (nI d)) (kg + 1) (va_cpy ((st M kg 1 (nI d)) (kh + 1)) ((st M kg 1 (nI d)) (kg + 1)) 0 0 d)), rfl, rfl, (by show va_P D vwCl _ t.heap; rw [ht]; exact hP)⟩, hS.F ht⟩) hS.2.2 dX3_copyNumbers_25

set_option maxHeartbeats 4000000 in
set_option maxRecDepth 100000 in
/-- Topic.open -/
theorem kX4_open (l : Launch) {D : va_G} {cy ad : Nat → Nat} {n : Nat} {M : Mm} {ex : va_W} {A : Nat → Prop} {k : Nat} (hD : ∀ M, va_D A (wd cy ad n M ++ ex)) (htp : isTp cy ad k) (hk : k + 18 ≤ n) {v : Int32} : Met l yX4_open wsX4_open ({ frames := 3, cells := 0, slots := 0, locals := 67 }) (va_Pc [.ref (ad k), .int v] (RW D cy (wd cy ad n M ++ ex) A)) (va_Qv (S := Mm) (fun u => u = st (st M k 0 v) k 1 (nI (tB v))) (fun u t => va_P D vwCl (wd cy ad n u ++ ex) t.heap) A) 0 0 A := by
  refine Met.ofW (cc := cX4_open) (maxL := 2) (ret := none) (by decide +kernel) rfl ?_
  intro p e s m args below meth c s₁ B hml hv
  obtain ⟨rfl, hP, hE, hA⟩ := hv
  have hx := B.exec
  have hb := B.bytes
  have hr := B.returns
  have hts := atoms_spec (ws := wsX4_open) B.pre
  have hown : s.vm.findClass RX4 = some m.cls := findClass_of_methodNamed B.named
  have hlocks := B.notSynchronized
  have hf15 : (Cond.fieldLink RX4 15 "RingPetition$Topic" "topicBase" "I").before #[.ref (ad k), .int v] s = true := hts _ (by decide +kernel)
  have hf9 : (Cond.fieldLink RX4 9 "RingPetition$Topic" "value" "I").before #[.ref (ad k), .int v] s = true := hts _ (by decide +kernel)
  have hin_RX4 : ∀ w ∈ u_ws RX4 TX4 5, w ∈ wsX4_open := by decide +kernel
  have hS : va_S A s.heap s.heap [] := va_S.rf
  have hl := lv_entry ([.ref (ad k), .int v]) (n := 2) (Nat.le_of_ble_eq_true rfl)
  rw [lg_entry_eq]
  generalize (lg_sl ([.ref (ad k), .int v]) ++ List.replicate (2 - (lg_sl ([.ref (ad k), .int v])).length) Slot.unset).toArray = ls at hl ⊢
  have hl : lv_has ls 2 [(0, .ref (ad k)), (1, .int v)] := hl
  refine lv_aload_n hx hb dX4_open_0 rfl (lv_at hl 0 rfl) ?_
  refine lv_iload_n hx hb dX4_open_1 rfl (lv_at hl 1 rfl) ?_
  refine wr_put (cy := cy) (ad := ad) (ex := ex) (ci := 3) (C := RX4) (T := TX4) (N := 5) (ty := .int) hx hb hts hin_RX4 tyX4 tyX4_ok nmX4 hown hE.1 hP hD hS k (show k < n by omega) (htp.1 _) rfl 0 (by decide) hf9 (fun _ h9 => h9) rfl (by decide +kernel) rfl rfl (by simp) ((htp.1 _).trans (by simp [st_at])) dX4_open_2 (fun H locs hP hS => ?_)
  refine lv_aload_n hx hb dX4_open_5 rfl (lv_at hl 0 rfl) ?_
  refine lv_iload_n hx hb dX4_open_6 rfl (lv_at hl 1 rfl) ?_
  refine vp_callSi (W.runS (As := [.int v]) (rest := [.ref (ad k)]) ⟨hx, hb, hml, hown, hts⟩ (kX2_topicBase l) (va_cwS 1 hts gX4_open_X2_topicBase rfl rfl rfl (by decide +kernel) ⟨Nat.le_of_ble_eq_true rfl, Nat.le_of_ble_eq_true rfl⟩) pu_ps rfl rfl hl.1 rfl (lv_room (Nat.le_of_ble_eq_true rfl)) dX4_open_7 ⟨Nat.le_of_ble_eq_true rfl, Nat.le_of_ble_eq_true rfl⟩) (fun r_7 hr_7 => ?_)
  subst hr_7
  refine wr_put (cy := cy) (ad := ad) (ex := ex) (ci := 3) (C := RX4) (T := TX4) (N := 5) (ty := .int) hx hb hts hin_RX4 tyX4 tyX4_ok nmX4 hown hE.1 hP hD hS k (show k < n by omega) (htp.1 _) rfl 1 (by decide) hf15 (fun _ h9 => h9) rfl (by decide +kernel) rfl rfl (by simp) ((htp.1 _).trans (by simp [st_at])) dX4_open_10 (fun H locs hP hS => ?_)
  exact W.vret hx hb hr (fun t ht hW => ⟨⟨(st (st M k 0 v) k 1 (nI (tB v))), rfl, rfl, (by show va_P D vwCl _ t.heap; rw [ht]; exact hP)⟩, hS.F ht⟩) hS.2.2 dX4_open_13

set_option maxHeartbeats 4000000 in
set_option maxRecDepth 100000 in
/-- Topic.hasAmongFirst -/
theorem kX4_hasAmongFirst (l : Launch) {D : va_G} {cy ad : Nat → Nat} {n : Nat} {M : Mm} {ex : va_W} {k : Nat} (htp : isTp cy ad k) (hk : k + 18 ≤ n) {sc a : Nat} {tag : Int32} (hsc : M k 4 = nI sc) (hsc8 : sc ≤ 8) (ha : a ≤ 8) : Met l yX4_hasAmongFirst wsX4_hasAmongFirst ({ frames := 0, cells := 0, slots := 0, locals := 0 }) (va_Pc [.ref (ad k), .int (nI a), .int tag] (RO D cy (wd cy ad n M ++ ex))) (vp_Si (fun r => bP (∃ j, j < a ∧ j < sc ∧ M (k + 2 + 2 * j + 1) 1 = tag) r)) 0 0 (fun _ => False) := by
  refine Met.ofW (cc := cX4_hasAmongFirst) (maxL := 4) (ret := (some .boolean)) (by decide +kernel) rfl ?_
  intro p e s m args below meth c s₁ B hml hv
  obtain ⟨rfl, hP, hE⟩ := hv
  have hx := B.exec
  have hb := B.bytes
  have hr := B.returns
  have hts := atoms_spec (ws := wsX4_hasAmongFirst) B.pre
  have hown : s.vm.findClass RX4 = some m.cls := findClass_of_methodNamed B.named
  have hlocks := B.notSynchronized
  have hf24 : (Cond.fieldLink RX4 24 "RingPetition$Topic" "stored" "[LRingPetition$Signature;").before #[.ref (ad k), .int (nI a), .int tag] s = true := hts _ (by decide +kernel)
  have hf28 : (Cond.fieldLink RX4 28 "RingPetition$Topic" "storedCount" "I").before #[.ref (ad k), .int (nI a), .int tag] s = true := hts _ (by decide +kernel)
  have hf37 : (Cond.fieldLinkNest RX4 37 "RingPetition$Signature" "numbers" "[I" "RingPetition").before #[.ref (ad k), .int (nI a), .int tag] s = true := va_Nw.use rfl (hE.2 _ (List.mem_of_getElem? (i := 6) rfl))
  have hin_RX3 : ∀ w ∈ u_ws RX3 TX3 4, w ∈ wsX4_hasAmongFirst := by decide +kernel
  have hin_RX4 : ∀ w ∈ u_ws RX4 TX4 5, w ∈ wsX4_hasAmongFirst := by decide +kernel
  have hl := lv_entry ([.ref (ad k), .int (nI a), .int tag]) (n := 4) (Nat.le_of_ble_eq_true rfl)
  rw [lg_entry_eq]
  generalize (lg_sl ([.ref (ad k), .int (nI a), .int tag]) ++ List.replicate (4 - (lg_sl ([.ref (ad k), .int (nI a), .int tag])).length) Slot.unset).toArray = ls at hl ⊢
  have hl : lv_has ls 4 [(0, .ref (ad k)), (1, .int (nI a)), (2, .int tag)] := hl
  refine lv_iconst (v := (nI 0)) hx hb dX4_hasAmongFirst_0 (by decide) ?_
  refine lv_istore_n (lv' := [(3, .int (nI 0)), (0, .ref (ad k)), (1, .int (nI a)), (2, .int tag)]) hx hb dX4_hasAmongFirst_1 rfl hl (by decide) rfl (fun ls hl => ?_)
  refine wloopR (fun kq (xq : Nat) ls => match xq with | i => kq = a - i ∧ (i ≤ a ∧ ∀ j, j < i → j < sc → M (k + 2 + 2 * j + 1) 1 ≠ tag) ∧ lv_has ls 4 [(3, .int (nI i)), (0, .ref (ad k)), (1, .int (nI a)), (2, .int tag)]) (fun k2 x2 ls h2 ih2 => ?_) _ 0 ls ⟨rfl, ⟨Nat.zero_le _, fun j h => absurd h (Nat.not_lt_zero j)⟩, lv_sub hl [0, 1, 2, 3] rfl⟩
  obtain ⟨i, rfl⟩ : ∃ z, z = x2 := ⟨_, rfl⟩
  obtain ⟨hk2, hI, hl⟩ := h2
  refine lv_iload_n hx hb dX4_hasAmongFirst_2 rfl (lv_at hl 0 rfl) ?_
  refine lv_iload_n hx hb dX4_hasAmongFirst_3 rfl (lv_at hl 2 rfl) ?_
  refine lv_icmp_ge (tgt := 38) hx hb dX4_hasAmongFirst_4 (by decide) (fun c_4 => ?_) (fun c_4 => ?_)
  · have c_4 := (nI_leI (by omega) (by omega)).mp c_4
    refine lv_iconst (v := (nI 0)) hx hb dX4_hasAmongFirst_38 (by decide) ?_
    exact W.zret (v := (nI 0)) hx hb hr rfl (fun t ht hW => ⟨(nI 0), rfl, (bP_0 (fun h => by obtain ⟨j, hj, hs, e9⟩ := h; exact hI.2 j (by omega) hs e9)), ht⟩) (fun q h => nomatch h) dX4_hasAmongFirst_39
  · have c_4 := mt (nI_leI (by omega) (by omega)).mpr c_4
    refine lv_iload_n hx hb dX4_hasAmongFirst_7 rfl (lv_at hl 0 rfl) ?_
    refine lv_aload_n hx hb dX4_hasAmongFirst_8 rfl (lv_at hl 1 rfl) ?_
    refine va_get (D := D) (ci := 3) (v := .int (M k 4)) (C := RX4) (T := TX4) (N := 5) hx hb hts hin_RX4 hown hE.1 hP k (wd_at (M := M) (show k < n by omega) (htp.1 _)) rfl 4 (by decide) hf28 (fun _ h9 => h9) rfl dX4_hasAmongFirst_9 ?_
    refine wr_top (y := (nI sc)) hsc ?_
    refine lv_icmp_ge (tgt := 38) hx hb dX4_hasAmongFirst_12 (by decide) (fun c_12 => ?_) (fun c_12 => ?_)
    · have c_12 := (nI_leI (by omega) (by omega)).mp c_12
      refine lv_iconst (v := (nI 0)) hx hb dX4_hasAmongFirst_38 (by decide) ?_
      exact W.zret (v := (nI 0)) hx hb hr rfl (fun t ht hW => ⟨(nI 0), rfl, (bP_0 (fun h => by obtain ⟨j, hj, hs, e9⟩ := h; exact hI.2 j (by omega) hs e9)), ht⟩) (fun q h => nomatch h) dX4_hasAmongFirst_39
    · have c_12 := mt (nI_leI (by omega) (by omega)).mpr c_12
      refine lv_aload_n hx hb dX4_hasAmongFirst_15 rfl (lv_at hl 1 rfl) ?_
      refine va_get (D := D) (ci := 3) (v := .ref (ad (k + 1))) (C := RX4) (T := TX4) (N := 5) hx hb hts hin_RX4 hown hE.1 hP k (wd_at (M := M) (show k < n by omega) (htp.1 _)) rfl 3 (by decide) hf24 (fun _ h9 => h9) rfl dX4_hasAmongFirst_16 ?_
      refine lv_iload_n hx hb dX4_hasAmongFirst_19 rfl (lv_at hl 0 rfl) ?_
      refine wr_aldq (cy := cy) (ad := ad) (ex := ex) hx hb hE.1 hP (k + 1) (show k + 1 < n by omega) 4 (htp.2.1 _) rfl i rfl (by omega) (by decide) dX4_hasAmongFirst_20 ?_
      refine va_getN (D := D) (ci := 2) (v := .ref (ad (k + 2 + 2 * i + 1))) (C := RX3) (T := TX3) (N := 4) hx hb hts hin_RX3 hown hE.1 hP (k + 2 + 2 * i) (wd_at (M := M) (show k + 2 + 2 * i < n by omega) ((htp.2.2 i (by omega)).1 _)) rfl 0 (by decide) hf37 (fun _ h9 => h9) rfl dX4_hasAmongFirst_21 ?_
      refine lv_iconst (v := (nI 1)) hx hb dX4_hasAmongFirst_24 (by decide) ?_
      refine wr_ald (cy := cy) (ad := ad) (ex := ex) hx hb hE.1 hP (k + 2 + 2 * i + 1) (show k + 2 + 2 * i + 1 < n by omega) ((htp.2.2 i (by omega)).2 _) 1 rfl (by omega) (by decide) dX4_hasAmongFirst_25 ?_
      refine lv_iload_n hx hb dX4_hasAmongFirst_26 rfl (lv_at hl 3 rfl) ?_
      refine lv_icmp_ne (tgt := 32) hx hb dX4_hasAmongFirst_27 (by decide) (fun c_27 => ?_) (fun c_27 => ?_)
      · refine lv_iinc (v := (nI (i + 1))) (lv' := [(3, .int (nI (i + 1))), (0, .ref (ad k)), (1, .int (nI a)), (2, .int tag)]) hx hb dX4_hasAmongFirst_32 hl (k := 0) rfl (nI_1 _) (by decide) rfl (fun ls hl => ?_)
        refine lv_goto (tgt := 2) hx hb dX4_hasAmongFirst_35 (by decide) ?_
        exact ih2 _ (i + 1) _ (by omega) ⟨rfl, ⟨by omega, fun j hj hs => by rcases Nat.lt_or_ge j i with h | h <;> first | exact hI.2 j h hs | (rw [show j = i by omega]; exact c_27)⟩, (lv_sub hl [0, 1, 2, 3] rfl)⟩
      · refine lv_iconst (v := (nI 1)) hx hb dX4_hasAmongFirst_30 (by decide) ?_
        exact W.zret (v := (nI 1)) hx hb hr rfl (fun t ht hW => ⟨(nI 1), rfl, (bP_1 ⟨i, by omega, by omega, c_27⟩), ht⟩) (fun q h => nomatch h) dX4_hasAmongFirst_31

set_option maxHeartbeats 4000000 in
set_option maxRecDepth 100000 in
/-- Topic.store -/
theorem kX4_store (l : Launch) {D : va_G} {cy ad : Nat → Nat} {n : Nat} {M : Mm} {ex : va_W} {A : Nat → Prop} {k : Nat} (hD : ∀ M, va_D A (wd cy ad n M ++ ex)) (htp : isTp cy ad k) (hk : k + 18 ≤ n) {sc kh d : Nat} {rn mo : Int32} (hsc : M k 4 = nI sc) (hsc8 : sc < 8) (hsh : isSg cy ad kh) (hkh : kh < n) (hkh1 : kh + 1 < n) (hne1 : kh ≠ k + 2 + 2 * sc) (hd : M kh 1 = nI d) (hd8 : d ≤ 8) : Met l yX4_store wsX4_store ({ frames := 2, cells := 0, slots := 0, locals := 81 }) (va_Pc [.ref (ad k), .ref (ad kh), .int rn, .int mo] (RW D cy (wd cy ad n M ++ ex) A)) (va_Qv (S := Mm) (fun u => u = st (st (st (va_up (st M (k + 2 + 2 * sc) 1 (nI d)) (k + 2 + 2 * sc + 1) (va_cpy (st M (k + 2 + 2 * sc) 1 (nI d) (kh + 1)) (st M (k + 2 + 2 * sc) 1 (nI d) (k + 2 + 2 * sc + 1)) 0 0 d)) (k + 2 + 2 * sc) 2 rn) (k + 2 + 2 * sc) 3 mo) k 4 (nI (sc + 1))) (fun u t => va_P D vwCl (wd cy ad n u ++ ex) t.heap) A) 0 0 A := by
  refine Met.ofW (cc := cX4_store) (maxL := 5) (ret := none) (by decide +kernel) rfl ?_
  intro p e s m args below meth c s₁ B hml hv
  obtain ⟨rfl, hP, hE, hA⟩ := hv
  have hx := B.exec
  have hb := B.bytes
  have hr := B.returns
  have hts := atoms_spec (ws := wsX4_store) B.pre
  have hown : s.vm.findClass RX4 = some m.cls := findClass_of_methodNamed B.named
  have hlocks := B.notSynchronized
  have hf24 : (Cond.fieldLink RX4 24 "RingPetition$Topic" "stored" "[LRingPetition$Signature;").before #[.ref (ad k), .ref (ad kh), .int rn, .int mo] s = true := hts _ (by decide +kernel)
  have hf28 : (Cond.fieldLink RX4 28 "RingPetition$Topic" "storedCount" "I").before #[.ref (ad k), .ref (ad kh), .int rn, .int mo] s = true := hts _ (by decide +kernel)
  have hf45 : (Cond.fieldLinkNest RX4 45 "RingPetition$Signature" "ringNumber" "I" "RingPetition").before #[.ref (ad k), .ref (ad kh), .int rn, .int mo] s = true := va_Nw.use rfl (hE.2 _ (List.mem_of_getElem? (i := 10) rfl))
  have hf48 : (Cond.fieldLinkNest RX4 48 "RingPetition$Signature" "motion" "I" "RingPetition").before #[.ref (ad k), .ref (ad kh), .int rn, .int mo] s = true := va_Nw.use rfl (hE.2 _ (List.mem_of_getElem? (i := 12) rfl))
  have hin_RX3 : ∀ w ∈ u_ws RX3 TX3 4, w ∈ wsX4_store := by decide +kernel
  have hin_RX4 : ∀ w ∈ u_ws RX4 TX4 5, w ∈ wsX4_store := by decide +kernel
  have hS : va_S A s.heap s.heap [] := va_S.rf
  have hl := lv_entry ([.ref (ad k), .ref (ad kh), .int rn, .int mo]) (n := 5) (Nat.le_of_ble_eq_true rfl)
  rw [lg_entry_eq]
  generalize (lg_sl ([.ref (ad k), .ref (ad kh), .int rn, .int mo]) ++ List.replicate (5 - (lg_sl ([.ref (ad k), .ref (ad kh), .int rn, .int mo])).length) Slot.unset).toArray = ls at hl ⊢
  have hl : lv_has ls 5 [(0, .ref (ad k)), (1, .ref (ad kh)), (2, .int rn), (3, .int mo)] := hl
  refine lv_aload_n hx hb dX4_store_0 rfl (lv_at hl 0 rfl) ?_
  refine va_get (D := D) (ci := 3) (v := .int (M k 4)) (C := RX4) (T := TX4) (N := 5) hx hb hts hin_RX4 hown hE.1 hP k (wd_at (M := M) (show k < n by omega) (htp.1 _)) rfl 4 (by decide) hf28 (fun _ h9 => h9) rfl dX4_store_1 ?_
  refine wr_top (y := (nI sc)) hsc ?_
  refine lv_bipush (v := (nI 8)) hx hb dX4_store_4 (by decide) ?_
  refine lv_icmp_ge (tgt := 48) hx hb dX4_store_6 (by decide) (fun c_6 => ?_) (fun c_6 => ?_)
  · have c_6 := (nI_leI (by omega) (by omega)).mp c_6
    exfalso; omega
  · have c_6 := mt (nI_leI (by omega) (by omega)).mpr c_6
    refine lv_aload_n hx hb dX4_store_9 rfl (lv_at hl 0 rfl) ?_
    refine va_get (D := D) (ci := 3) (v := .ref (ad (k + 1))) (C := RX4) (T := TX4) (N := 5) hx hb hts hin_RX4 hown hE.1 hP k (wd_at (M := M) (show k < n by omega) (htp.1 _)) rfl 3 (by decide) hf24 (fun _ h9 => h9) rfl dX4_store_10 ?_
    refine lv_aload_n hx hb dX4_store_13 rfl (lv_at hl 0 rfl) ?_
    refine va_get (D := D) (ci := 3) (v := .int (M k 4)) (C := RX4) (T := TX4) (N := 5) hx hb hts hin_RX4 hown hE.1 hP k (wd_at (M := M) (show k < n by omega) (htp.1 _)) rfl 4 (by decide) hf28 (fun _ h9 => h9) rfl dX4_store_14 ?_
    refine wr_top (y := (nI sc)) hsc ?_
    refine wr_aldq (cy := cy) (ad := ad) (ex := ex) hx hb hE.1 hP (k + 1) (show k + 1 < n by omega) 4 (htp.2.1 _) rfl sc rfl (by omega) (by decide) dX4_store_17 ?_
    refine lv_astore (lv' := [(4, .ref (ad (k + 2 + 2 * sc))), (0, .ref (ad k)), (1, .ref (ad kh)), (2, .int rn), (3, .int mo)]) hx hb dX4_store_18 hl (by decide) rfl (fun ls hl => ?_)
    refine lv_aload hx hb dX4_store_20 (lv_at hl 0 rfl) ?_
    refine lv_aload_n hx hb dX4_store_22 rfl (lv_at hl 2 rfl) ?_
    refine va_callv (va_runV (As := [.ref (ad kh)]) (rest := []) ⟨hx, hb, hml, hown, hts⟩ (kX3_copyNumbers l hD (htp.2.2 sc (by omega)) (by omega) (by omega) hsh hkh hkh1 hne1 hd hd8) (cwV 1 hts gX4_store_X3_copyNumbers rfl rfl rfl (by decide +kernel) ⟨Nat.le_of_ble_eq_true rfl, Nat.le_of_ble_eq_true rfl⟩) (rw_pv (ci := 2) (q := (RX3, TX3, 4)) hE hP hS hA rfl (wd_at (M := M) (show k + 2 + 2 * sc < n by omega) ((htp.2.2 sc (by omega)).1 _))) rfl rfl hl.1 rfl (lv_room (Nat.le_of_ble_eq_true rfl)) dX4_store_23 ⟨Nat.le_of_ble_eq_true rfl, Nat.le_of_ble_eq_true rfl⟩) hS (fun q _ h => h) (fun q h => h) (fun u_23 t H1 locs ht hvm hr_23 hB_23 hz1 hk1 hS => ?_)
    have hP : va_P D vwCl (wd cy ad n u_23 ++ ex) H1 := by rw [← ht]; exact hB_23
    clear hB_23 ht hvm hz1 hk1
    generalize H1 = H at hP hS ⊢
    subst hr_23
    refine lv_aload hx hb dX4_store_26 (lv_at hl 0 rfl) ?_
    refine lv_iload_n hx hb dX4_store_28 rfl (lv_at hl 3 rfl) ?_
    refine wr_putN (cy := cy) (ad := ad) (ex := ex) (ci := 2) (C := RX3) (T := TX3) (N := 4) (ty := .int) hx hb hts hin_RX3 tyX3 tyX3_ok nmX3 hown hE.1 hP hD hS (k + 2 + 2 * sc) (show k + 2 + 2 * sc < n by omega) ((htp.2.2 sc (by omega)).1 _) rfl 2 (by decide) hf45 (fun _ h9 => h9) rfl (by decide +kernel) rfl rfl (by simp) (((htp.2.2 sc (by omega)).1 _).trans (by simp [st_at])) dX4_store_29 (fun H locs hP hS => ?_)
    refine lv_aload hx hb dX4_store_32 (lv_at hl 0 rfl) ?_
    refine lv_iload_n hx hb dX4_store_34 rfl (lv_at hl 4 rfl) ?_
    refine wr_putN (cy := cy) (ad := ad) (ex := ex) (ci := 2) (C := RX3) (T := TX3) (N := 4) (ty := .int) hx hb hts hin_RX3 tyX3 tyX3_ok nmX3 hown hE.1 hP hD hS (k + 2 + 2 * sc) (show k + 2 + 2 * sc < n by omega) ((htp.2.2 sc (by omega)).1 _) rfl 3 (by decide) hf48 (fun _ h9 => h9) rfl (by decide +kernel) rfl rfl (by simp) (((htp.2.2 sc (by omega)).1 _).trans (by simp [st_at])) dX4_store_35 (fun H locs hP hS => ?_)
    refine lv_aload_n hx hb dX4_store_38 rfl (lv_at hl 1 rfl) ?_
    refine lv_dup hx hb dX4_store_39 rfl ?_
    refine va_get (D := D) (ci := 3) (v := .int ((st (st (va_up (st M (k + 2 + 2 * sc) 1 (nI d)) (k + 2 + 2 * sc + 1) (va_cpy (st M (k + 2 + 2 * sc) 1 (nI d) (kh + 1)) (st M (k + 2 + 2 * sc) 1 (nI d) (k + 2 + 2 * sc + 1)) 0 0 d)) (k + 2 + 2 * sc) 2 rn) (k + 2 + 2 * sc) 3 mo) k 4)) (C := RX4) (T := TX4) (N := 5) hx hb hts hin_RX4 hown hE.1 hP k (wd_at (M := (st (st (va_up (st M (k + 2 + 2 * sc) 1 (nI d)) (k + 2 + 2 * sc + 1) (va_cpy (st M (k + 2 + 2 * sc) 1 (nI d) (kh + 1)) (st M (k + 2 + 2 * sc) 1 (nI d) (k + 2 + 2 * sc + 1)) 0 0 d)) (k + 2 + 2 * sc) 2 rn) (k + 2 + 2 * sc) 3 mo)) (show k < n by omega) (htp.1 _)) rfl 4 (by decide) hf28 (fun _ h9 => h9) rfl dX4_store_40 ?_
    refine wr_top (y := (nI sc)) (by rw [st_r _ _ _ (show k ≠ k + 2 + 2 * sc by omega), st_r _ _ _ (show k ≠ k + 2 + 2 * sc by omega), va_up_ne _ _ (show k ≠ k + 2 + 2 * sc + 1 by omega), st_r _ _ _ (show k ≠ k + 2 + 2 * sc by omega)]; exact hsc) ?_
    refine lv_iconst (v := (nI 1)) hx hb dX4_store_43 (by decide) ?_
    refine lv_iadd hx hb dX4_store_44 ?_
    refine wr_top (y := (nI (sc + 1))) (nI_add _ _) ?_
    refine wr_put (cy := cy) (ad := ad) (ex := ex) (ci := 3) (C := RX4) (T := TX4) (N := 5) (ty := .int) hx hb hts hin_RX4 tyX4 tyX4_ok nmX4 hown hE.1 hP hD hS k (show k < n by omega) (htp.1 _) rfl 4 (by decide) hf28 (fun _ h9 => h9) rfl (by decide +kernel) rfl rfl (by simp) ((htp.1 _).trans (by simp [st_at])) dX4_store_45 (fun H locs hP hS => ?_)
    exact W.vret hx hb hr (fun t ht hW => ⟨⟨(st (st (st (va_up (st M (k + 2 + 2 * sc) 1 (nI d)) (k + 2 + 2 * sc + 1) (va_cpy (st M (k + 2 + 2 * sc) 1 (nI d) (kh + 1)) (st M (k + 2 + 2 * sc) 1 (nI d) (k + 2 + 2 * sc + 1)) 0 0 d)) (k + 2 + 2 * sc) 2 rn) (k + 2 + 2 * sc) 3 mo) k 4 (nI (sc + 1))), rfl, rfl, (by show va_P D vwCl _ t.heap; rw [ht]; exact hP)⟩, hS.F ht⟩) hS.2.2 dX4_store_48
