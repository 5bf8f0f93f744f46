/-! methods that throw: what they are given, their ends -/
def strL : List (Nat × String) := [(70, "no key of a new member"), (80, "there are 12 members"), (89, "no secret"), (98, "not 2 to 6 members"), (100, "there are 8 rings"), (106, "there are 6 topics"), (122, "no place in the ring"), (127, "not the secret of the key there"), (149, "the draft has no such number"), (156, "the topic is closed"), (162, "the draft is no good signature"), (173, "the tag is stored, or there are 8 signatures"), (184, "no such signature"), (190, "the signature has no such number"), (199, "the bundle has no such int"), (201, "the bundle has no room there"), (203, "the bundle has fewer ints"), (205, "the bundle has no head"), (207, "not 0 to 8 signatures"), (213, "the bundle is not as a topic's is"), (215, "no such ring"), (217, "no such topic")]
def exL : List String := ["java/lang/IllegalArgumentException", "java/lang/IllegalStateException", "java/lang/IndexOutOfBoundsException", "java/lang/UnsupportedOperationException"]
def exB (X : String) : List Cond := [.declares (Bundle.initS "java/lang/RuntimeException"), .declares (Bundle.initS "java/lang/Exception"), .declares (Bundle.initS "java/lang/Throwable"), .castable X X]
def XF (A : Nat → Prop) (U : State) : Prop := vx_Zq Bundle.tN "UNASSIGNED_STACK" Bundle.steD A U U.heap ∧ vx_Zq Bundle.tN "SUPPRESSED_SENTINEL" Bundle.listD A U U.heap ∧ (∀ q ∈ strL, ∃ sa, vk_R RX5 q.1 q.2 sa U) ∧ ∀ X ∈ exL, ∀ w ∈ exB X, va_Nw w U
theorem XF.go {A : Nat → Prop} {s U : State} {H : Heap} {locs : List Loc} (hS : va_S A s.heap H locs) (hU : U.heap = H) (hW : s.WarmedH U.vm) (h : XF A s) : XF A U := by
  refine ⟨?_, ?_, fun q hq => ?_, fun X hX w hw => ?_⟩
  · rw [hU]; exact vx_Zq.moved hW.alike (h.1.kept hS.2.1)
  · rw [hU]; exact vx_Zq.moved hW.alike (h.2.1.kept hS.2.1)
  · obtain ⟨sa, h1⟩ := h.2.2.1 q hq
    exact ⟨sa, vk_R.warm hW h1⟩
  · have h1 := h.2.2.2 X hX
    have hw2 := hw
    simp only [exB, List.mem_cons, List.not_mem_nil, or_false] at hw2
    rcases hw2 with rfl | rfl | rfl | rfl
    · exact va_Nw.warmD hW (h1 _ hw)
    · exact va_Nw.warmD hW (h1 _ hw)
    · exact va_Nw.warmD hW (h1 _ hw)
    · exact va_Nw.warmC hW (h1 _ hw)
theorem XF.same {A : Nat → Prop} {U : State} {g : JFrame} {mk : MethodId} {a : Array Value} (h : XF A U) : XF A (U.calling g mk a) := XF.go (s := U) (U := U.calling g mk a) (locs := []) va_S.rf rfl (State.WarmedH.refl U) h
def TW (D : va_G) (cy : Nat → Nat) (ws : va_W) (A : Nat → Prop) (U : State) : Prop := va_P D vwCl ws U.heap ∧ EV D cy U ∧ (∀ q, U.heap.size ≤ q → A q) ∧ XF A U
section TPRE
variable {s : State} {H : Heap} {D : va_G} {cy : Nat → Nat} {ws : va_W} {A : Nat → Prop} {locs : List Loc} {As : List Value} {b q0 ci : Nat} {fs : List Value} {q : vw_C}
theorem tw_fb {av : List Value} : FrameBlind (va_Pc av (TW D cy ws A)) := fun a U g mk h => ⟨h.1, h.2.1, EV.same (s := U) (U := U.calling g mk a) rfl h.2.2.1, h.2.2.2.1, XF.same h.2.2.2.2⟩
theorem tw_pv (hE : EV D cy s) (hP : va_P D vwCl ws H) (hS : va_S A s.heap H locs) (hA : ∀ q, s.heap.size ≤ q → A q) (hX : XF A s) (hc : vwCl[ci]? = some q) (he : ws[q0]? = some (b, .inr (ci, fs))) : PreV s H q.1 b (va_Pc (.ref b :: As) (TW D cy ws A)) As := ⟨tw_fb, va_recv hE.1 hP hc he, fun U hU hW => ⟨rfl, by rw [hU]; exact hP, hE.warm hW, fun q h => hA q (Nat.le_trans hS.1 (by rw [hU] at h; exact h)), hX.go hS hU hW⟩⟩
end TPRE
theorem va_keep {D : va_G} {cl : List vw_C} {ws : va_W} {H H1 : Heap} (h : va_P D cl ws H) (hq : ∀ q : Nat, q < H.size → H1[q]? = H[q]?) : va_P D cl ws H1 := fun k q hk => (h k q hk).kept (hq q.1 (h k q hk).lt)
theorem vx_fin {A : Nat → Prop} {s t : State} {H : Heap} {locs : List Loc} (hS : va_S A s.heap H locs) (h1 : H.size ≤ t.heap.size) (h2 : ∀ q : Nat, q < H.size → t.heap[q]? = H[q]?) : va_F A s t := ⟨Nat.le_trans hS.1 h1, fun q a b => (h2 q (Nat.lt_of_lt_of_le a hS.1)).trans (hS.2.1 q a b)⟩
theorem ex_u {X : String} {A : Nat → Prop} {s : State} {args : Array Value} (h : XF A s) (hX : X ∈ exL) : ∀ w ∈ exB X, w.before args s = true := by
  intro w hw
  refine va_Nw.use ?_ (h.2.2.2 X hX w hw)
  simp only [exB, List.mem_cons, List.not_mem_nil, or_false] at hw
  rcases hw with rfl | rfl | rfl | rfl <;> rfl
abbrev exN : List String := ["java/lang/RuntimeException", "java/lang/Exception"]
theorem ex_n : ∀ n ∈ exN, Bundle.fit n = true := by decide +kernel
theorem ex_c68 : Bundle.fit "java/lang/IllegalArgumentException" = true := by decide +kernel
theorem ex_g68 : ∀ w ∈ Cond.classLink RX5 68 "java/lang/IllegalArgumentException" :: Cond.initialized "java/lang/IllegalArgumentException" :: vx_atS RX5 72 "java/lang/IllegalArgumentException" exN, vx_ot w = true := by decide +kernel
theorem ex_b68 : ∀ w ∈ (vx_atS RX5 72 "java/lang/IllegalArgumentException" exN).filter (fun w => !goodWord w), w ∈ exB "java/lang/IllegalArgumentException" := by decide +kernel
theorem ex_c78 : Bundle.fit "java/lang/IllegalStateException" = true := by decide +kernel
theorem ex_g78 : ∀ w ∈ Cond.classLink RX5 78 "java/lang/IllegalStateException" :: Cond.initialized "java/lang/IllegalStateException" :: vx_atS RX5 82 "java/lang/IllegalStateException" exN, vx_ot w = true := by decide +kernel
theorem ex_b78 : ∀ w ∈ (vx_atS RX5 82 "java/lang/IllegalStateException" exN).filter (fun w => !goodWord w), w ∈ exB "java/lang/IllegalStateException" := by decide +kernel
theorem ex_c147 : Bundle.fit "java/lang/IndexOutOfBoundsException" = true := by decide +kernel
theorem ex_g147 : ∀ w ∈ Cond.classLink RX5 147 "java/lang/IndexOutOfBoundsException" :: Cond.initialized "java/lang/IndexOutOfBoundsException" :: vx_atS RX5 151 "java/lang/IndexOutOfBoundsException" exN, vx_ot w = true := by decide +kernel
theorem ex_b147 : ∀ w ∈ (vx_atS RX5 151 "java/lang/IndexOutOfBoundsException" exN).filter (fun w => !goodWord w), w ∈ exB "java/lang/IndexOutOfBoundsException" := by decide +kernel
theorem ex_c171 : Bundle.fit "java/lang/UnsupportedOperationException" = true := by decide +kernel
theorem ex_g171 : ∀ w ∈ Cond.classLink RX5 171 "java/lang/UnsupportedOperationException" :: Cond.initialized "java/lang/UnsupportedOperationException" :: vx_atS RX5 175 "java/lang/UnsupportedOperationException" exN, vx_ot w = true := by decide +kernel
theorem ex_b171 : ∀ w ∈ (vx_atS RX5 175 "java/lang/UnsupportedOperationException" exN).filter (fun w => !goodWord w), w ∈ exB "java/lang/UnsupportedOperationException" := by decide +kernel
section VXQ
variable {p : Program} {l : Launch} {e : Env} {R : Room} {s : State} {m : MethodId} {args : Array Value} {below : List Frame} {meth : Method} {c : Code} {H : Heap} {locs : List Loc} {cells slots : Nat} {Q : State → Prop}
variable {mc ms : Nat} {free : Addr → Prop} {A0 A1 : Nat → Prop} {H0 : Heap} {a : Array Value} {pc : Nat} {ls : Array Slot} {st0 rest : List Value}
theorem vx_callq {S SX : Type} {post : Option Nat → S → Prop} {px : SX → Prop} {B : S → State → Prop} {BX : String → SX → State → Prop} {AX : Nat → Prop} (hr : vx_Run p l e R s m args below meth c H locs cells slots mc ms (F0 m pc ls st0) rest (va_Qq post B A1 a) (vx_X px BX AX) free) (hS : va_S A0 H0 H locs) (hA : ∀ q, q < H.size → A1 q → A0 q) (hf : ∀ q, free q → A0 q) (hAX : ∀ q, q < H.size → AX q → A0 q)
    (kx : ∀ (E : String) (ce : Cell) (q9 : Addr) (u : SX) (t : State) (H1 : Heap) (locs1 : List Loc), t.heap = H1 → s.vm.Alike t.vm → px u → BX E u t → H.size ≤ H1.size → (∀ q : Nat, q < H.size → ¬ AX q → H1[q]? = H[q]?) → va_S A0 H0 H1 locs1 → H1[q9]? = some ce → ce.vm = .none → s.vm.findClass E = some ce.cls → vx_W p l e R s m args below meth c H1 locs1 (cells + mc) (slots + ms) Q (F0 m pc ls rest) q9)
    (kk : ∀ (r : Option Nat) (u : S) (t : State) (H1 : Heap) (locs1 : List Loc), t.heap = H1 → s.vm.Alike t.vm → post r u → B u t → H.size ≤ H1.size → (∀ q : Nat, q < H.size → ¬ A1 q → H1[q]? = H[q]?) → va_S A0 H0 H1 locs1 → W p l e R s m args below meth c H1 locs1 (cells + mc) (slots + ms) Q (F0 m (pc + 3) ls (va_rf r :: rest))) : W p l e R s m args below meth c H locs cells slots Q (F0 m pc ls st0) := by
  intro T hT X
  rcases hr T hT X with ⟨v, st₀, t, T', L, h0, X', hL, e1, e2, ⟨⟨r, u, hv, hp, hb⟩, hF⟩, st⟩ | ⟨q, st₀, t, T', L, E, ce, h0, X', hL, e1, e2, ⟨u, hp, hb, hF⟩, hce, hcv, hcl, st⟩
  · cases hv
    obtain ⟨k1, k2, k3⟩ := vx_keep h0 e1 hS hA hf hL hF
    obtain ⟨t2, a1, b1⟩ := kk r u t T'.heap (locs ++ L) e1.symm (by rw [← e2]; exact X'.warmed.alike) hp hb k1 k2 k3 T' rfl X'
    exact ⟨t2, st t2 a1, b1⟩
  · obtain ⟨k1, k2, k3⟩ := vx_keep h0 e1 hS hAX hf hL hF
    obtain ⟨t2, a1, b1⟩ := kx E ce q u t T'.heap (locs ++ L) e1.symm (by rw [← e2]; exact X'.warmed.alike) hp hb k1 k2 k3 (by rw [e1]; exact hce) hcv hcl T' rfl X'
    exact ⟨t2, st.trans a1, b1⟩
end VXQ
section NEWC
variable {p : Program} {l : Launch} {e : Env} {R : Room} {s : State} {m : MethodId} {args : Array Value} {below : List Frame} {meth : Method} {c : Code} {H : Heap} {locs : List Loc} {cells slots : Nat} {Q : State → Prop}
variable {cc : ByteArray} {pc : Nat} {ls : Array Slot} {rest : List Value} {D : va_G} {A : Nat → Prop} {H0 : Heap} {cy ad : Nat → Nat} {n : Nat} {M : Mm}
theorem wr_newC {own : String} {index : Nat} {Ts : List Cond} (hexec : p.tables.exec = Jvm.exec) (hb : c.code = cc) (hts : ∀ w ∈ Ts, w.before args s = true) (hin : ∀ w ∈ u_ws RX0 TX0 4, w ∈ Ts) (hown : s.vm.findClass own = some m.cls) (hcl : (Cond.classLink own index RX0).before args s = true) (hinst : (Cond.instantiable RX0 4).before args s = true) (hini : (Cond.initialized RX0).before args s = true)
    (hK : va_K D vwCl (tyL cy) s) (hP : va_P D vwCl (wd cy ad n M ++ []) H) (hD : va_D A (wd cy ad n M ++ [])) (hS : va_S A H0 H locs) (hA : ∀ q, H0.size ≤ q → A q) (hcells : cells + 1 ≤ R.cells) (hslots : slots + 4 ≤ R.slots) (hdg : decode cc pc = .ok (.new index, 3))
    (kk : ∀ (q : Nat) (H1 : Heap), va_P D vwCl (wd cy ad n M ++ [(q, .inr (0, [.null, .int 0, .int 0, .int 0]))]) H1 → va_D A (wd cy ad n M ++ [(q, .inr (0, [.null, .int 0, .int 0, .int 0]))]) → va_S A H0 H1 locs →
      W p l e R s m args below meth c H1 locs (cells + 1) (slots + 4) Q (F0 m (pc + 3) ls (.ref q :: rest))) : W p l e R s m args below meth c H locs cells slots Q (F0 m pc ls rest) := by
  refine va_new (ci := 0) (fs := [.null, .int 0, .int 0, .int 0]) (C := RX0) (T := TX0) (N := 4) hexec hb hts hin tyX0 tyX0_ok hown hcl hinst hini hK hP hD hS hA rfl (fun j hj => by rcases (show j = 0 ∨ j = 1 ∨ j = 2 ∨ j = 3 by omega) with rfl | rfl | rfl | rfl <;> rfl) hcells hslots hdg (fun q H1 hP1 hD1 hS1 => ?_)
  rw [List.append_nil] at hP1 hD1
  exact kk q H1 hP1 hD1 hS1
end NEWC
