/-! MY LAYER: a method's contract in one form, its entry, its calls, its ends -/
abbrev YY : Type := ClassId × ClassId × ClassId
def ytys (Y : YY) : List (ClassId × FieldType) := [(Y.1, .int), (Y.2.1, .char), (Y.2.2, .object "NineDancers$Ring")]
def KN (U : State) : Prop := va_Nw (.methodLinkNest RX3 21 yX1_init "NineDancers") U ∧ va_Nw (.methodLinkNest RX2 75 yX3_counterpart "NineDancers") U ∧ va_Nw (.methodLinkNest RX2 107 yX3_pairIndex "NineDancers") U ∧ va_Nw (.methodLinkNest RX2 93 yX3_remainderOf "NineDancers") U ∧ va_AO "NineDancers$Ring" U
theorem KN.warm {s U : State} (hW : s.WarmedH U.vm) (h : KN s) : KN U := ⟨va_Nw.warmM hW h.1, va_Nw.warmM hW h.2.1, va_Nw.warmM hW h.2.2.1, va_Nw.warmM hW h.2.2.2.1, va_AO.moved hW.alike h.2.2.2.2⟩
theorem KN.same {u U : State} (e : u.vm = U.vm) (h : KN u) : KN U := ⟨va_Nw.same rfl e h.1, va_Nw.same rfl e h.2.1, va_Nw.same rfl e h.2.2.1, va_Nw.same rfl e h.2.2.2.1, va_AO.moved (e ▸ Vm.Alike.refl _) h.2.2.2.2⟩
def KK (D : va_G) (Y : YY) (U : State) : Prop := va_K D vwCl (ytys Y) U ∧ KN U
theorem KK.warm {D : va_G} {Y : YY} {s U : State} (hW : s.WarmedH U.vm) (h : KK D Y s) : KK D Y U := ⟨va_K.moved hW.alike h.1, h.2.warm hW⟩
def Pst (D : va_G) (Y : YY) (sz : Nat) (w : va_W) : State → Prop := fun U => U.heap.size = sz ∧ va_P D vwCl w U.heap ∧ KK D Y U ∧ va_D (fun _ => True) w
theorem Pst.blind {D : va_G} {Y : YY} {sz : Nat} {w : va_W} {av : List Value} : FrameBlind (va_Pc av (Pst D Y sz w)) := fun a U g mk q => ⟨q.1, q.2.1, q.2.2.1, ⟨va_K.moved (u := U) (U := U.calling g mk a) (Vm.Alike.refl U.vm) q.2.2.2.1.1, KN.same (u := U) (U := U.calling g mk a) rfl q.2.2.2.1.2⟩, q.2.2.2.2⟩
def Bst (D : va_G) (A : Nat → Prop) (w1 : va_W) (t : State) : Prop := va_P D vwCl w1 t.heap ∧ va_D A w1
abbrev Qsi (D : va_G) (post : Int32 → va_W → Prop) (A : Nat → Prop) : Array Value → State → Outcome → State → Prop := va_Qi post (Bst D A) A
abbrev Qsv (D : va_G) (post : va_W → Prop) (A : Nat → Prop) : Array Value → State → Outcome → State → Prop := va_Qv post (Bst D A) A
theorem ct_in {l : Launch} {y : MethodName} {ws ws' : List Cond} {rm : Room} {D : va_G} {Y : YY} {sz : Nat} {av : List Value} {w : va_W} {Qc : (Nat → Prop) → Array Value → State → Outcome → State → Prop} {mc ms : Nat} {cc : ByteArray} {maxL : Nat} {ret : Option FieldType}
    (hy : plainName y.cls = true) (hw : ws = Cond.code y cc maxL ret :: ws') (hn : (lg_sl av).length ≤ maxL)
    (body : ∀ (p : Program) (e : Env) (s : State) (m : MethodId) (below : List Frame) (meth : Method) (c : Code) (A : Nat → Prop) (ls : Array Slot), p.tables.exec = Jvm.exec → c.code = cc → meth.sig.returnType = ret → (∀ x ∈ ws, x.before av.toArray s = true) → s.vm.findClass y.cls = some m.cls → c.maxLocals = maxL → meth.locks = false → meth.name = y.name →
      s.heap.size = sz → (∀ q : Nat, s.heap.size ≤ q → A q) → va_P D vwCl w s.heap → va_D A w → KK D Y s → va_S A s.heap s.heap [] → lv_has ls maxL (lv_args 0 av) →
      W p l e (headSpec ws rm).room s m av.toArray below meth c s.heap [] 0 0 (MQ below (Qc A) av.toArray s mc ms A) (F0 m 0 ls [])) :
    Met l y ws rm (va_Pc av (Pst D Y sz w)) (Qc (va_A w sz)) mc ms (va_A w sz) := by
  refine Met.ofW (cc := cc) (maxL := maxL) (ret := ret) hy hw ?_
  intro p e s m args below meth c s₁ B hml hv
  obtain ⟨rfl, hsz, hP, hK, hD0⟩ := hv
  have hts := atoms_spec (ws := ws) B.pre
  have hown : s.vm.findClass y.cls = some m.cls := findClass_of_methodNamed B.named
  have hin : meth.name = y.name := (name_of_methodNamed B.named B.method).1
  have hl := lv_entry av (n := maxL) hn
  rw [lg_entry_eq]
  generalize (lg_sl av ++ List.replicate (maxL - (lg_sl av).length) Slot.unset).toArray = ls at hl ⊢
  exact body p e s m below meth c (va_A w sz) ls B.exec B.bytes B.returns hts hown hml B.notSynchronized hin hsz (fun q h => by rw [hsz] at h; exact Or.inr h) hP hD0.self hK va_S.rf hl
section MYW
variable {p : Program} {l : Launch} {e : Env} {R : Room} {s : State} {m : MethodId} {args : Array Value} {below : List Frame} {meth : Method} {c : Code} {H : Heap} {locs : List Loc} {cells slots : Nat} {Q : State → Prop}
variable {cc : ByteArray} {pc : Nat} {ls : Array Slot} {rest st0 : List Value} {D : va_G} {Y : YY} {A : Nat → Prop} {ws wc wr w1 w2 : va_W} {mc ms : Nat}
theorem ret_i {post : Int32 → va_W → Prop} {v : Int32} (hx : p.tables.exec = Jvm.exec) (hb : c.code = cc) (hr : meth.sig.returnType = some .int) (hlk : meth.locks = false) (hP : va_P D vwCl w1 H) (hD : va_D A w1) (hS : va_S A s.heap H locs) (hdg : decode cc pc = .ok (.ireturn, 1)) (hc : cells ≤ mc ∧ slots ≤ ms) (hq : post v w1) :
    W p l e R s m args below meth c H locs cells slots (MQ below (Qsi D post A) args s mc ms A) (F0 m pc ls [.int v]) := by
  refine W.widen hc.1 hc.2 ?_
  exact W.iret (v := v) hx hb hr (fun t ht hW => ⟨⟨v, w1, rfl, hq, by rw [ht]; exact hP, hD⟩, hS.F ht⟩) hS.2.2 hdg hlk
theorem ret_z {post : Int32 → va_W → Prop} {v : Int32} {ty : FieldType} (hx : p.tables.exec = Jvm.exec) (hb : c.code = cc) (hr : meth.sig.returnType = some ty) (hn : narrow ty (.int v) = .int v) (hlk : meth.locks = false) (hP : va_P D vwCl w1 H) (hD : va_D A w1) (hS : va_S A s.heap H locs) (hdg : decode cc pc = .ok (.ireturn, 1)) (hc : cells ≤ mc ∧ slots ≤ ms) (hq : post v w1) :
    W p l e R s m args below meth c H locs cells slots (MQ below (Qsi D post A) args s mc ms A) (F0 m pc ls [.int v]) := by
  refine W.widen hc.1 hc.2 ?_
  exact W.zret (v := v) hx hb hr hn (fun t ht hW => ⟨⟨v, w1, rfl, hq, by rw [ht]; exact hP, hD⟩, hS.F ht⟩) hS.2.2 hdg hlk
theorem ret_v {post : va_W → Prop} (hx : p.tables.exec = Jvm.exec) (hb : c.code = cc) (hr : meth.sig.returnType = none) (hlk : meth.locks = false) (hP : va_P D vwCl w1 H) (hD : va_D A w1) (hS : va_S A s.heap H locs) (hdg : decode cc pc = .ok (.return_, 1)) (hc : cells ≤ mc ∧ slots ≤ ms) (hq : post w1) :
    W p l e R s m args below meth c H locs cells slots (MQ below (Qsv D post A) args s mc ms A) (F0 m pc ls []) := by
  refine W.widen hc.1 hc.2 ?_
  exact W.vret hx hb hr (fun t ht hW => ⟨⟨w1, rfl, hq, by rw [ht]; exact hP, hD⟩, hS.F ht⟩) hS.2.2 hdg hlk
theorem my_pick {is : List Nat} {w : va_W} (hs : is.map (fun i => ws[i]?) = w.map some) (k : Nat) (q : Nat × va_E) (hq : w[k]? = some q) : ∃ i, is[k]? = some i ∧ ws[i]? = some q := by
  have h1 : (is.map (fun i => ws[i]?))[k]? = some (some q) := by rw [hs, List.getElem?_map, hq]; rfl
  rw [List.getElem?_map] at h1
  cases hi : is[k]? with
  | none => rw [hi] at h1; cases h1
  | some i => rw [hi] at h1; exact ⟨i, rfl, Option.some.inj h1⟩
theorem my_sub {is : List Nat} (hP : va_P D vwCl ws H) (hs : is.map (fun i => ws[i]?) = wc.map some) : va_P D vwCl wc H := fun k q hq => by
  obtain ⟨i, -, h⟩ := my_pick hs k q hq
  exact hP i q h
theorem pst_S {av : List Value} (hK : KK D Y s) (hP : va_P D vwCl ws H) (hD : va_D A ws) (isC : List Nat) (hC : isC.map (fun i => ws[i]?) = wc.map some) (hn : va_nd isC = true) : PreS s H (va_Pc av (Pst D Y H.size wc)) av :=
  ⟨Pst.blind, fun U hU hW => ⟨rfl, by rw [hU], by rw [hU]; exact my_sub hP hC, hK.warm hW, (hD.sub isC hn hC).weaken (fun _ _ _ _ => trivial)⟩⟩
theorem pst_V {As : List Value} {C : String} {T : u_T} {N ci b q0 : Nat} {fs : List Value} (hK : KK D Y s) (hP : va_P D vwCl ws H) (hD : va_D A ws) (isC : List Nat) (hC : isC.map (fun i => ws[i]?) = wc.map some) (hn : va_nd isC = true) (he : wc[q0]? = some (b, .inr (ci, fs))) (hc : vwCl[ci]? = some (C, T, N)) : PreV s H C b (va_Pc (.ref b :: As) (Pst D Y H.size wc)) As :=
  ⟨Pst.blind, va_recv hK.1 (my_sub hP hC) hc he, fun U hU hW => ⟨rfl, by rw [hU], by rw [hU]; exact my_sub hP hC, hK.warm hW, (hD.sub isC hn hC).weaken (fun _ _ _ _ => trivial)⟩⟩
/-- behind a call with an int: what it says, and the whole world in an order of yours -/
theorem ck_i {post : Int32 → va_W → Prop} {a : Array Value} (hr : va_Run p l e R s m args below meth c H locs cells slots mc ms (F0 m pc ls st0) rest (Qsi D post (va_A wc H.size) a) (va_A wc H.size))
    (hP : va_P D vwCl ws H) (hD : va_D A ws) (hS : va_S A s.heap H locs) (hA : ∀ q : Nat, s.heap.size ≤ q → A q) (isC isR : List Nat) (hC : isC.map (fun i => ws[i]?) = wc.map some) (hR : isR.map (fun i => ws[i]?) = wr.map some) (hn : va_nd isR = true) (hdis : ∀ i ∈ isR, i ∉ isC)
    (kk : ∀ (r : Int32) (w1 : va_W) (H1 : Heap) (locs1 : List Loc), post r w1 → va_P D vwCl (wr ++ w1) H1 → va_D A (wr ++ w1) → va_S A s.heap H1 locs1 → W p l e R s m args below meth c H1 locs1 (cells + mc) (slots + ms) Q (F0 m (pc + 3) ls (.int r :: rest))) : W p l e R s m args below meth c H locs cells slots Q (F0 m pc ls st0) := by
  have hF := va_free (wc := wc) hD hS hA isC hC
  refine va_calli hr hS (fun q _ h => hF q h) hF (fun r u t H1 locs1 ht hvm hw hB hz1 hk1 hS1 => ?_)
  obtain ⟨hP1, hD1⟩ := hB
  rw [ht] at hP1
  obtain ⟨h1, h2⟩ := va_join (wr := wr) (w1 := u) hP hD isC isR hC hR hn hdis hk1 hF hP1 hD1
  exact kk r u H1 locs1 hw h1 h2 hS1
theorem ck_v {post : va_W → Prop} {a : Array Value} (hr : va_Run p l e R s m args below meth c H locs cells slots mc ms (F0 m pc ls st0) rest (Qsv D post (va_A wc H.size) a) (va_A wc H.size))
    (hP : va_P D vwCl ws H) (hD : va_D A ws) (hS : va_S A s.heap H locs) (hA : ∀ q : Nat, s.heap.size ≤ q → A q) (isC isR : List Nat) (hC : isC.map (fun i => ws[i]?) = wc.map some) (hR : isR.map (fun i => ws[i]?) = wr.map some) (hn : va_nd isR = true) (hdis : ∀ i ∈ isR, i ∉ isC)
    (kk : ∀ (w1 : va_W) (H1 : Heap) (locs1 : List Loc), post w1 → va_P D vwCl (wr ++ w1) H1 → va_D A (wr ++ w1) → va_S A s.heap H1 locs1 → W p l e R s m args below meth c H1 locs1 (cells + mc) (slots + ms) Q (F0 m (pc + 3) ls rest)) : W p l e R s m args below meth c H locs cells slots Q (F0 m pc ls st0) := by
  have hF := va_free (wc := wc) hD hS hA isC hC
  refine va_callv hr hS (fun q _ h => hF q h) hF (fun u t H1 locs1 ht hvm hw hB hz1 hk1 hS1 => ?_)
  obtain ⟨hP1, hD1⟩ := hB
  rw [ht] at hP1
  obtain ⟨h1, h2⟩ := va_join (wr := wr) (w1 := u) hP hD isC isR hC hR hn hdis hk1 hF hP1 hD1
  exact kk u H1 locs1 hw h1 h2 hS1
/-- the same, where the answer and the world behind it are told -/
theorem ck_iD {r0 : Int32} {w0 ws' : va_W} {a : Array Value} (hr : va_Run p l e R s m args below meth c H locs cells slots 0 0 (F0 m pc ls st0) rest (Qsi D (fun r w => r = r0 ∧ w = w0) (va_A wc H.size) a) (va_A wc H.size))
    (hP : va_P D vwCl ws H) (hD : va_D A ws) (hS : va_S A s.heap H locs) (hA : ∀ q : Nat, s.heap.size ≤ q → A q) (isC isR pm : List Nat) (hC : isC.map (fun i => ws[i]?) = wc.map some) (hR : isR.map (fun i => ws[i]?) = wr.map some) (hn : va_nd isR = true) (hdis : ∀ i ∈ isR, i ∉ isC) (hp : pm.map (fun i => (wr ++ w0)[i]?) = ws'.map some) (hpn : va_nd pm = true)
    (kk : ∀ (H1 : Heap) (locs1 : List Loc), va_P D vwCl ws' H1 → va_D A ws' → va_S A s.heap H1 locs1 → W p l e R s m args below meth c H1 locs1 cells slots Q (F0 m (pc + 3) ls (.int r0 :: rest))) : W p l e R s m args below meth c H locs cells slots Q (F0 m pc ls st0) := by
  refine ck_i hr hP hD hS hA isC isR hC hR hn hdis (fun r w1 H1 locs1 hq h1 h2 h3 => ?_)
  obtain ⟨rfl, rfl⟩ := hq
  exact kk H1 locs1 (my_sub h1 hp) (h2.sub pm hpn hp) h3
theorem ck_vD {w0 ws' : va_W} {a : Array Value} (hr : va_Run p l e R s m args below meth c H locs cells slots 0 0 (F0 m pc ls st0) rest (Qsv D (fun w => w = w0) (va_A wc H.size) a) (va_A wc H.size))
    (hP : va_P D vwCl ws H) (hD : va_D A ws) (hS : va_S A s.heap H locs) (hA : ∀ q : Nat, s.heap.size ≤ q → A q) (isC isR pm : List Nat) (hC : isC.map (fun i => ws[i]?) = wc.map some) (hR : isR.map (fun i => ws[i]?) = wr.map some) (hn : va_nd isR = true) (hdis : ∀ i ∈ isR, i ∉ isC) (hp : pm.map (fun i => (wr ++ w0)[i]?) = ws'.map some) (hpn : va_nd pm = true)
    (kk : ∀ (H1 : Heap) (locs1 : List Loc), va_P D vwCl ws' H1 → va_D A ws' → va_S A s.heap H1 locs1 → W p l e R s m args below meth c H1 locs1 cells slots Q (F0 m (pc + 3) ls rest)) : W p l e R s m args below meth c H locs cells slots Q (F0 m pc ls st0) := by
  refine ck_v hr hP hD hS hA isC isR hC hR hn hdis (fun w1 H1 locs1 hq h1 h2 h3 => ?_)
  obtain rfl := hq
  exact kk H1 locs1 (my_sub h1 hp) (h2.sub pm hpn hp) h3
end MYW
/-! STATES AND WORLDS -/
/-- one place of a state's rows -/
def s2 (S : Nat → Nat → Int32) (k i : Nat) (x : Int32) : Nat → Nat → Int32 := fun a => cond (Nat.beq a k) (upd (S a) i x) (S a)
def fR (q : Nat → Nat) (S : Nat → Nat → Int32) : List Value := [.ref (q 0), .int (S 10 0), .ref (q 1), .ref (q 2), .ref (q 3), .ref (q 4), .ref (q 5), .ref (q 6), .ref (q 7), .ref (q 8), .ref (q 9), .int (S 10 1), .int (S 10 2)]
def wR (Y : YY) (r : Nat) (q : Nat → Nat) (S : Nat → Nat → Int32) : va_W := [(r, .inr (2, fR q S)), (q 0, .inl (Y.1, 3, .inl (S 0))), (q 1, .inl (Y.1, 9, .inl (S 1))), (q 2, .inl (Y.1, 9, .inl (S 2))), (q 3, .inl (Y.1, 9, .inl (S 3))), (q 4, .inl (Y.1, 9, .inl (S 4))), (q 5, .inl (Y.1, 9, .inl (S 5))), (q 6, .inl (Y.1, 81, .inl (S 6))), (q 7, .inl (Y.1, 81, .inl (S 7))), (q 8, .inl (Y.1, 81, .inl (S 8))), (q 9, .inl (Y.1, 9, .inl (S 9)))]
def wP (Y : YY) (p t : Nat) (S : Nat → Nat → Int32) : va_W := [(p, .inr (1, [.ref t, .int (S 1 0)])), (t, .inl (Y.2.1, 60, .inl (S 0)))]
def wX (x r tr p h sl : Nat) : va_W := [(x, .inr (3, [.ref r, .ref tr, .ref p, .ref h, .ref sl]))]
def wH (h st : Nat) (n : Int32) : va_W := [(h, .inr (0, [.ref st, .int n]))]
def wA (Y : YY) (a n : Nat) (f : Nat → Option Nat) : va_W := [(a, .inl (Y.2.2, n, .inr (.inr (.inr (.inr f)))))]
def wI (Y : YY) (a n : Nat) (f : Nat → Int32) : va_W := [(a, .inl (Y.1, n, .inl f))]
theorem my_lt {x y : Int32} {k N : Nat} (ex : x = nI k) (ey : y = nI N) (hN : N < 2 ^ 31) (hk : k ≤ N) (c : ¬ y ≤ x) : k < N := by
  rcases Nat.lt_or_ge k N with h | h
  · exact h
  · exact absurd (by rw [ex, ey]; exact nI_le h (by omega)) c
theorem nar01 {v : Int32} (h : v = 0 ∨ v = 1) : narrow .boolean (.int v) = .int v := by rcases h with rfl | rfl <;> rfl
/-- a whole row of a state -/
def sX (S : Nat → Nat → Int32) (k : Nat) (f : Nat → Int32) : Nat → Nat → Int32 := fun a => cond (Nat.beq a k) f (S a)
