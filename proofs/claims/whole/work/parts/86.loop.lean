/-! THE CLAIM OUT OF ONE WALK OF THE LAW'S BODY. Your part is whole_start (and what it stands on); all else here is the same for every law, but numbers. -/
def R_law : String := "RingPetitionLaw"
def lw_P (b : Addr) (xs : List Int32) (args : Array Value) (s : State) : Prop := args = #[.ref b] ∧ s.IntsAt b xs ∧ xs.length ≤ 3072 ∧ (Jvm.Cond.and given_1 narrow_1).before args s = true
def lw_Q (_ : Array Value) (s : State) (o : Outcome) (t : State) : Prop := o = .returned (some (.int 1)) ∧ Framed s o t [] 601024 7293034
def lw_Z (below : List Frame) (a : Array Value) (s : State) : State → Prop := fun t => ∃ o, t.status = .running ∧ Ended t below o ∧ lw_Q a s o t
/-- the law's own end, with 1 on the stack, nothing written that was there before, its room as the claim has it -/
theorem lw_ret {p : Program} {l : Launch} {e : Env} {s : State} {m : MethodId} {below : List Frame} {meth : Method} {c : Code} {b : Nat} (hx : p.tables.exec = Jvm.exec) (hb : c.code = code) (hr : meth.sig.returnType = ret) (hlocks : meth.locks = false) {pc : Nat} {H : Heap} {ls : Array Slot} (hdg : decode code pc = .ok (.ireturn, 1)) : W p l e room_1 s m #[Value.ref b] below meth c H [] 601024 7293034 (lw_Z below #[Value.ref b] s) (F0 m pc ls [.int 1]) := by
  intro T hT X
  obtain ⟨fs, hret, hrun, hended, hW, hframe⟩ := X.leave (v := some (.int 1)) (hlocks := hlocks) (fun h => by rw [hr] at h; cases h)
  have hmeth' : T.vm.method? m = some meth := X.method'
  refine ⟨T.setFrames fs, ?_, .returned (some (.int 1)), hrun, hended, rfl, ⟨_, rfl⟩, hW, hframe⟩
  jvm_step X.here [X.here.top, hx, hb, hdg, hmeth', hr, ret, narrow_b1]
  (try refine ⟨rfl, ?_⟩); (try refine ⟨rfl, ?_⟩)
  first | (intro acts; rw [hret _ acts rfl rfl rfl]) | rw [hret _ _ rfl rfl rfl]
  exact Steps.refl _
/-- what holds at the law's entry: the machine, the code, the tables' words (any of lw_tbl by 'hts w (by decide +kernel)'), the script of L ints xs at the cell b, what the Statement gives of the start (any of its parts by flat_of_before) -/
def lw_At (p : Program) (s : State) (m : MethodId) (meth : Method) (c : Code) (b L : Nat) (xs : Nat → Int32) : Prop :=
  p.tables.exec = Jvm.exec ∧ c.code = code ∧ meth.sig.returnType = ret ∧ c.maxLocals = 7 ∧ s.vm.findClass R_law = some m.cls ∧ (∀ w ∈ lw_tbl, w.before #[Value.ref b] s = true) ∧ va_X b L xs s s.heap ∧ b < s.heap.size ∧ meth.locks = false ∧ (Jvm.Cond.and given_1 narrow_1).before #[Value.ref b] s = true
theorem lw_gt {i L : Nat} (hi : i < 2 ^ 31) (hL : L < 2 ^ 30) : Int32.ofNat L - nI 6 < nI i ↔ L < i + 6 := by
  have h := pk_sub_toInt (a := L) (b := 6) hL (by decide)
  rw [Int32.lt_iff_toInt_lt, nI_toInt hi, show Int32.ofNat L - nI 6 = nI L - nI 6 from rfl, h]
  omega
set_option maxHeartbeats 4000000 in
set_option maxRecDepth 100000 in
/-- the law's loop: its invariant is the relation of the two memories -/
theorem law_loop {p : Program} {l : Launch} {e : Env} {s : State} {m : MethodId} {below : List Frame} {meth : Method} {c : Code} {b L : Nat} {xs : Nat → Int32} {D : va_G} {cy ad : Nat → Nat} (C0 : LC p l s m c b L xs D cy ad) (hr : meth.sig.returnType = ret) (hlocks : meth.locks = false) (hL : L ≤ 3072) :
    ∀ (n i : Nat), L ≤ i + 6 * n → i ≤ L → ∀ (cells slots : Nat), cells + 9 * n ≤ 601024 → slots + 38 * n ≤ 7293034 → ∀ (M : Mm) (H : Heap) (locs : List Loc) (ls : Array Slot), RR M → va_P D vwCl (wd cy ad 155 M ++ []) H → va_S (AL s) s.heap H locs → lv_has ls 7 [(0, .ref b), (1, .ref (ad 0)), (2, .ref (ad 137)), (3, .ref (ad 154)), (4, .int (nI i))] → W p l e room_1 s m #[Value.ref b] below meth c H locs cells slots (lw_Z below #[Value.ref b] s) (F0 m 23 ls []) := by
  have C1 := C0
  obtain ⟨hx, hb, hml, hown, hts, hX, hbl, hE, hXF, hN1, hN2, hN3, hN4, hD, hlt⟩ := C0
  have hbA : ¬ AL s b := Nat.not_le.mpr hbl
  intro n
  induction n with
  | zero =>
    intro i hin hi cells slots hc hs M H locs ls hR hP hS hl
    refine lv_iload hx hb dL_law_23 (lv_at hl 4 rfl) ?_
    refine lv_aload_n hx hb dL_law_25 rfl (lv_at hl 0 rfl) ?_
    refine va_slen hx hb hX hbl hbA hS dL_law_26 ?_
    refine lv_bipush (v := nI 6) hx hb dL_law_27 (by decide) ?_
    refine lv_isub hx hb dL_law_29 ?_
    refine lv_icmp_gt (tgt := 1249) hx hb dL_law_30 (by decide) (fun c9 => ?_) (fun c9 => ?_)
    · refine lv_iconst (v := 1) hx hb dL_law_1249 (by decide) ?_
      refine va_forget (fun q hq => hS.2.2 q hq) ?_
      refine W.widen (k := 601024) (n := 7293034) (by omega) (by omega) ?_
      exact lw_ret hx hb hr hlocks dL_law_1250
    · exact absurd ((lw_gt (by omega) (by omega)).mpr (by omega)) c9
  | succ n ih =>
    intro i hin hi cells slots hc hs M H locs ls hR hP hS hl
    refine lv_iload hx hb dL_law_23 (lv_at hl 4 rfl) ?_
    refine lv_aload_n hx hb dL_law_25 rfl (lv_at hl 0 rfl) ?_
    refine va_slen hx hb hX hbl hbA hS dL_law_26 ?_
    refine lv_bipush (v := nI 6) hx hb dL_law_27 (by decide) ?_
    refine lv_isub hx hb dL_law_29 ?_
    refine lv_icmp_gt (tgt := 1249) hx hb dL_law_30 (by decide) (fun c9 => ?_) (fun c9 => ?_)
    · refine lv_iconst (v := 1) hx hb dL_law_1249 (by decide) ?_
      refine va_forget (fun q hq => hS.2.2 q hq) ?_
      refine W.widen (k := 601024) (n := 7293034) (by omega) (by omega) ?_
      exact lw_ret hx hb hr hlocks dL_law_1250
    · have hi6 : i + 6 ≤ L := by
        have := mt (lw_gt (i := i) (L := L) (by omega) (by omega)).mpr c9
        omega
      have nx : ∀ (M2 : Mm) (H2 : Heap) (locs2 : List Loc) (ls2 : Array Slot), RR M2 → va_P D vwCl (wd cy ad 155 M2 ++ []) H2 → va_S (AL s) s.heap H2 locs2 → lv_has ls2 7 [(0, .ref b), (1, .ref (ad 0)), (2, .ref (ad 137)), (3, .ref (ad 154)), (4, .int (nI i))] → W p l e room_1 s m #[Value.ref b] below meth c H2 locs2 (cells + 9) (slots + 38) (lw_Z below #[Value.ref b] s) (F0 m 1243 ls2 []) := by
        intro M2 H2 locs2 ls2 hR2 hP2 hS2 hl2
        refine lv_iinc (v := nI (i + 6)) (lv' := [(4, .int (nI (i + 6))), (0, .ref b), (1, .ref (ad 0)), (2, .ref (ad 137)), (3, .ref (ad 154))]) hx hb dL_law_1243 hl2 (k := 4) rfl (show nI i + nI 6 = nI (i + 6) from nI_add _ _) (by decide) rfl (fun ls hl => ?_)
        refine lv_goto (tgt := 23) hx hb dL_law_1246 (by decide) ?_
        exact ih (i + 6) (by omega) hi6 _ _ (by omega) (by omega) M2 H2 locs2 ls hR2 hP2 hS2 (lv_sub hl [1, 2, 3, 4, 0] rfl)
      refine lv_aload_n hx hb dL_law_33 rfl (lv_at hl 0 rfl) ?_
      refine lv_iload hx hb dL_law_34 (lv_at hl 4 rfl) ?_
      refine va_sld hx hb hX hbl hbA hS (vp_in_nI (show i < L by omega) (by omega)) dL_law_36 ?_
      refine lv_bipush (v := nI 31) hx hb dL_law_37 (by decide) ?_
      refine lv_iand hx hb dL_law_39 ?_
      refine lv_topi (fun y ey => ?_)
      by_cases hq : y.toInt < 0 ∨ 18 < y.toInt
      · refine lv_tableOut (tgt := 1243) hx hb dL_law_40 hq (by decide) ?_
        refine W.widen (k := cells + 9) (n := slots + 38) (by omega) (by omega) ?_
        exact nx M _ _ ls hR hP hS hl
      · obtain ⟨k, hk⟩ : ∃ k : Nat, y.toInt = (k : Int) := ⟨y.toInt.toNat, by omega⟩
        rcases (show k = 0 ∨ k = 1 ∨ k = 2 ∨ k = 3 ∨ k = 4 ∨ k = 5 ∨ k = 6 ∨ k = 7 ∨ k = 8 ∨ k = 9 ∨ k = 10 ∨ k = 11 ∨ k = 12 ∨ k = 13 ∨ k = 14 ∨ k = 15 ∨ k = 16 ∨ k = 17 ∨ k = 18 by omega) with rfl | rfl | rfl | rfl | rfl | rfl | rfl | rfl | rfl | rfl | rfl | rfl | rfl | rfl | rfl | rfl | rfl | rfl | rfl
        · exact lv_tableIn (off := 92) (tgt := 132) hx hb dL_law_40 (by omega) (by omega) (by rw [hk]; rfl) (by decide) (kC_member C1 hR hi6 hL hP hS (by omega) (by omega) hl nx)
        · exact lv_tableIn (off := 148) (tgt := 188) hx hb dL_law_40 (by omega) (by omega) (by rw [hk]; rfl) (by decide) (kC_key C1 hR hi6 hL hP hS (by omega) (by omega) hl nx)
        · exact lv_tableIn (off := 204) (tgt := 244) hx hb dL_law_40 (by omega) (by omega) (by rw [hk]; rfl) (by decide) (kC_ring C1 hR hi6 hL hP hS (by omega) (by omega) hl nx)
        · exact lv_tableIn (off := 260) (tgt := 300) hx hb dL_law_40 (by omega) (by omega) (by rw [hk]; rfl) (by decide) (kC_topic C1 hR hi6 hL hP hS (by omega) (by omega) hl nx)
        · exact lv_tableIn (off := 316) (tgt := 356) hx hb dL_law_40 (by omega) (by omega) (by rw [hk]; rfl) (by decide) (kC_base C1 hR hi6 hL hP hS (by omega) (by omega) hl nx)
        · exact lv_tableIn (off := 372) (tgt := 412) hx hb dL_law_40 (by omega) (by omega) (by rw [hk]; rfl) (by decide) (kC_sign C1 hR hi6 hL hP hS (by omega) (by omega) hl nx)
        · exact lv_tableIn (off := 476) (tgt := 516) hx hb dL_law_40 (by omega) (by omega) (by rw [hk]; rfl) (by decide) (kC_draft C1 hR hi6 hL hP hS (by omega) (by omega) hl nx)
        · exact lv_tableIn (off := 532) (tgt := 572) hx hb dL_law_40 (by omega) (by omega) (by rw [hk]; rfl) (by decide) (kC_edit C1 hR hi6 hL hP hS (by omega) (by omega) hl nx)
        · exact lv_tableIn (off := 580) (tgt := 620) hx hb dL_law_40 (by omega) (by omega) (by rw [hk]; rfl) (by decide) (kC_submit C1 hR hi6 hL hP hS (by omega) (by omega) hl nx)
        · exact lv_tableIn (off := 660) (tgt := 700) hx hb dL_law_40 (by omega) (by omega) (by rw [hk]; rfl) (by decide) (kC_count C1 hR hi6 hL hP hS (by omega) (by omega) hl nx)
        · exact lv_tableIn (off := 716) (tgt := 756) hx hb dL_law_40 (by omega) (by omega) (by rw [hk]; rfl) (by decide) (kC_seen C1 hR hi6 hL hP hS (by omega) (by omega) hl nx)
        · exact lv_tableIn (off := 779) (tgt := 819) hx hb dL_law_40 (by omega) (by omega) (by rw [hk]; rfl) (by decide) (kC_recount C1 hR hi6 hL hP hS (by omega) (by omega) hl nx)
        · exact lv_tableIn (off := 835) (tgt := 875) hx hb dL_law_40 (by omega) (by omega) (by rw [hk]; rfl) (by decide) (kC_spoil C1 hR hi6 hL hP hS (by omega) (by omega) hl nx)
        · exact lv_tableIn (off := 907) (tgt := 947) hx hb dL_law_40 (by omega) (by omega) (by rw [hk]; rfl) (by decide) (kC_close C1 hR hi6 hL hP hS (by omega) (by omega) hl nx)
        · exact lv_tableIn (off := 963) (tgt := 1003) hx hb dL_law_40 (by omega) (by omega) (by rw [hk]; rfl) (by decide) (kC_export C1 hR hi6 hL hP hS (by omega) (by omega) hl nx)
        · exact lv_tableIn (off := 1019) (tgt := 1059) hx hb dL_law_40 (by omega) (by omega) (by rw [hk]; rfl) (by decide) (kC_bundle C1 hR hi6 hL hP hS (by omega) (by omega) hl nx)
        · exact lv_tableIn (off := 1075) (tgt := 1115) hx hb dL_law_40 (by omega) (by omega) (by rw [hk]; rfl) (by decide) (kC_poke C1 hR hi6 hL hP hS (by omega) (by omega) hl nx)
        · exact lv_tableIn (off := 1123) (tgt := 1163) hx hb dL_law_40 (by omega) (by omega) (by rw [hk]; rfl) (by decide) (kC_cut C1 hR hi6 hL hP hS (by omega) (by omega) hl nx)
        · exact lv_tableIn (off := 1159) (tgt := 1199) hx hb dL_law_40 (by omega) (by omega) (by rw [hk]; rfl) (by decide) (kC_check C1 hR hi6 hL hP hS (by omega) (by omega) hl nx)
