set_option maxHeartbeats 4000000 in
set_option maxRecDepth 100000 in
/-- Claim(signers, value, topicBase, motion) -/
theorem kX0_init (l : Launch) {D : va_G} {cy ad : Nat → Nat} {n : Nat} {M : Mm} {A : Nat → Prop} {qc ks : Nat} {v b0 mo : Int32} (hD : va_D A (wd cy ad n M ++ [(qc, .inr (0, [.null, .int 0, .int 0, .int 0]))])) : Met l yX0_init wsX0_init ({ frames := 1, cells := 0, slots := 0, locals := 12 }) (va_Pc [.ref qc, .ref (ad ks), .int v, .int b0, .int mo] (RW D cy (wd cy ad n M ++ [(qc, .inr (0, [.null, .int 0, .int 0, .int 0]))]) A)) (va_Qv (S := Unit) (fun _ => True) (fun _ t => va_P D vwCl (wd cy ad n M ++ [(qc, .inr (0, [.ref (ad ks), .int v, .int b0, .int mo]))]) t.heap) A) 0 0 A := by
  refine Met.ofW (cc := cX0_init) (maxL := 5) (ret := none) (by decide) rfl ?_
  intro p e s m args below meth c s₁ B hml hv
  obtain ⟨rfl, hP, hE, hA⟩ := hv
  have hx := B.exec
  have hb := B.bytes
  have hr := B.returns
  have hts := atoms_spec (ws := wsX0_init) B.pre
  have hown : s.vm.findClass RX0 = some m.cls := findClass_of_methodNamed B.named
  have hlocks := B.notSynchronized
  have hin : meth.name = "<init>" := (name_of_methodNamed B.named B.method).1
  have hin_RX0 : ∀ w ∈ u_ws RX0 TX0 4, w ∈ wsX0_init := by decide +kernel
  have hS : va_S A s.heap s.heap [] := va_S.rf
  have hl := lv_entry ([.ref qc, .ref (ad ks), .int v, .int b0, .int mo]) (n := 5) (Nat.le_of_ble_eq_true rfl)
  rw [lg_entry_eq]
  generalize (lg_sl ([.ref qc, .ref (ad ks), .int v, .int b0, .int mo]) ++ List.replicate (5 - (lg_sl ([.ref qc, .ref (ad ks), .int v, .int b0, .int mo])).length) Slot.unset).toArray = ls at hl ⊢
  have hl : lv_has ls 5 [(0, .ref qc), (1, .ref (ad ks)), (2, .int v), (3, .int b0), (4, .int mo)] := hl
  refine lv_aload_n hx hb dX0_init_0 rfl (lv_at hl 0 rfl) ?_
  refine W.objInit hx hb hown (hts (.methodLink RX0 3 objectInit) (by decide +kernel)) (hts (.instanceMethod objectInit) (by decide +kernel)) (hts _ (List.mem_cons_of_mem _ (List.mem_append_left _ (List.mem_of_getElem? (i := 2) rfl)))) rfl (by rw [hml]; exact hl.1) rfl dX0_init_1 (Nat.le_of_ble_eq_true rfl) (Nat.le_of_ble_eq_true rfl) ?_
  refine W.eq (g2 := F0 m 4 ls []) rfl ?_
  refine lv_aload_n hx hb dX0_init_4 rfl (lv_at hl 0 rfl) ?_
  refine lv_aload_n hx hb dX0_init_5 rfl (lv_at hl 1 rfl) ?_
  refine va_putF (D := D) (ci := 0) (v := .ref (ad ks)) (ty := .object "RingPetition$KeyRow") (C := RX0) (T := TX0) (N := 4) hx hb hts hin_RX0 tyX0 tyX0_ok nmX0 hown hE.1 hP (wd_Dx hD) hS n wd_ex rfl 0 (by decide) (hts (.fieldLink RX0 9 "RingPetition$Claim" "signers" "LRingPetition$KeyRow;") (by decide +kernel)) (fun _ h9 => h9) rfl hin rfl (by decide +kernel) rfl rfl (Nat.le_of_ble_eq_true rfl) dX0_init_6 (fun H locs hP _ hS => ?_)
  rw [wd_exset] at hP
  have hP : va_P D vwCl (wd cy ad n M ++ [(qc, .inr (0, [.ref (ad ks), .int 0, .int 0, .int 0]))]) H := hP
  refine lv_aload_n hx hb dX0_init_9 rfl (lv_at hl 0 rfl) ?_
  refine lv_iload_n hx hb dX0_init_10 rfl (lv_at hl 2 rfl) ?_
  refine va_putF (D := D) (ci := 0) (v := .int v) (ty := .int) (C := RX0) (T := TX0) (N := 4) hx hb hts hin_RX0 tyX0 tyX0_ok nmX0 hown hE.1 hP (wd_Dx hD) hS n wd_ex rfl 1 (by decide) (hts (.fieldLink RX0 15 "RingPetition$Claim" "value" "I") (by decide +kernel)) (fun _ h9 => h9) rfl hin rfl (by decide +kernel) rfl rfl (Nat.le_of_ble_eq_true rfl) dX0_init_11 (fun H locs hP _ hS => ?_)
  rw [wd_exset] at hP
  have hP : va_P D vwCl (wd cy ad n M ++ [(qc, .inr (0, [.ref (ad ks), .int v, .int 0, .int 0]))]) H := hP
  refine lv_aload_n hx hb dX0_init_14 rfl (lv_at hl 0 rfl) ?_
  refine lv_iload_n hx hb dX0_init_15 rfl (lv_at hl 3 rfl) ?_
  refine va_putF (D := D) (ci := 0) (v := .int b0) (ty := .int) (C := RX0) (T := TX0) (N := 4) hx hb hts hin_RX0 tyX0 tyX0_ok nmX0 hown hE.1 hP (wd_Dx hD) hS n wd_ex rfl 2 (by decide) (hts (.fieldLink RX0 19 "RingPetition$Claim" "topicBase" "I") (by decide +kernel)) (fun _ h9 => h9) rfl hin rfl (by decide +kernel) rfl rfl (Nat.le_of_ble_eq_true rfl) dX0_init_16 (fun H locs hP _ hS => ?_)
  rw [wd_exset] at hP
  have hP : va_P D vwCl (wd cy ad n M ++ [(qc, .inr (0, [.ref (ad ks), .int v, .int b0, .int 0]))]) H := hP
  refine lv_aload_n hx hb dX0_init_19 rfl (lv_at hl 0 rfl) ?_
  refine lv_iload hx hb dX0_init_20 (lv_at hl 4 rfl) ?_
  refine va_putF (D := D) (ci := 0) (v := .int mo) (ty := .int) (C := RX0) (T := TX0) (N := 4) hx hb hts hin_RX0 tyX0 tyX0_ok nmX0 hown hE.1 hP (wd_Dx hD) hS n wd_ex rfl 3 (by decide) (hts (.fieldLink RX0 22 "RingPetition$Claim" "motion" "I") (by decide +kernel)) (fun _ h9 => h9) rfl hin rfl (by decide +kernel) rfl rfl (Nat.le_of_ble_eq_true rfl) dX0_init_22 (fun H locs hP _ hS => ?_)
  rw [wd_exset] at hP
  have hP : va_P D vwCl (wd cy ad n M ++ [(qc, .inr (0, [.ref (ad ks), .int v, .int b0, .int mo]))]) H := hP
  exact W.vret hx hb hr (fun t ht hW => ⟨⟨(), rfl, trivial, (by show va_P D vwCl _ t.heap; rw [ht]; exact hP)⟩, hS.F ht⟩) hS.2.2 dX0_init_25
