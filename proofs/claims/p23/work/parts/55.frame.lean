/-! worlds by blocks: their order is free -/
section FRM
variable {D : va_G} {cl : List vw_C} {A : Nat → Prop} {ws ws' wc wr w1 b r r' a : va_W} {H H1 : Heap}
theorem vP_mem : va_P D cl ws H ↔ ∀ q ∈ ws, va_at D cl q H := by
  constructor
  · intro h q hq
    obtain ⟨k, hk⟩ := List.mem_iff_getElem?.mp hq
    exact h k q hk
  · intro h k q hk
    exact h q (List.mem_of_getElem? hk)
theorem vP_perm (h : ws.Perm ws') (hP : va_P D cl ws H) : va_P D cl ws' H := vP_mem.mpr (fun q hq => vP_mem.mp hP q (h.mem_iff.mpr hq))
theorem vD_iff : va_D A ws ↔ ws.Pairwise (fun p q => p.1 ≠ q.1) ∧ ∀ q ∈ ws, A q.1 := by
  constructor
  · intro h
    obtain ⟨h1, h2⟩ := h
    refine ⟨List.pairwise_iff_getElem.mpr (fun i j hi hj hij e => ?_), fun q hq => ?_⟩
    · have := h1 i j _ _ (List.getElem?_eq_getElem hi) (List.getElem?_eq_getElem hj) e
      omega
    · obtain ⟨k, hk⟩ := List.mem_iff_getElem?.mp hq
      exact h2 k q hk
  · intro h
    obtain ⟨h1, h2⟩ := h
    refine ⟨fun i j p q hp hq e => ?_, fun k q hk => h2 q (List.mem_of_getElem? hk)⟩
    have h1 := List.pairwise_iff_getElem.mp h1
    obtain ⟨hi, rfl⟩ := List.getElem?_eq_some_iff.mp hp
    obtain ⟨hj, rfl⟩ := List.getElem?_eq_some_iff.mp hq
    rcases Nat.lt_trichotomy i j with z | z | z
    · exact absurd e (h1 i j hi hj z)
    · exact z
    · exact absurd e.symm (h1 j i hj hi z)
theorem vD_perm (h : ws.Perm ws') (hD : va_D A ws) : va_D A ws' := by
  obtain ⟨h1, h2⟩ := vD_iff.mp hD
  exact vD_iff.mpr ⟨h1.perm h (fun z => Ne.symm z), fun q hq => h2 q (h.mem_iff.mpr hq)⟩
theorem vP_l (h : va_P D cl (wc ++ wr) H) : va_P D cl wc H := vP_mem.mpr (fun q hq => vP_mem.mp h q (List.mem_append_left _ hq))
theorem vD_l (h : va_D A (wc ++ wr)) : va_D A wc := by
  obtain ⟨h1, h2⟩ := vD_iff.mp h
  exact vD_iff.mpr ⟨(List.pairwise_append.mp h1).1, fun q hq => h2 q (List.mem_append_left _ hq)⟩
theorem vfree (hp : ws.Perm (wc ++ wr)) (hD : va_D A ws) {H0 : Heap} {locs : List Loc} (hS : va_S A H0 H locs) (hA : ∀ q : Nat, H0.size ≤ q → A q) : ∀ q, va_A wc H.size q → A q := by
  intro q h
  rcases h with ⟨k, e, h⟩ | h
  · exact (vD_iff.mp hD).2 (q, e) (hp.mem_iff.mpr (List.mem_append_left _ (List.mem_of_getElem? h)))
  · exact hA q (Nat.le_trans hS.1 h)
theorem vjoin (hp : ws.Perm (wc ++ wr)) (hP : va_P D cl ws H) (hD : va_D A ws) (hk : ∀ q : Nat, q < H.size → ¬ va_A wc H.size q → H1[q]? = H[q]?) (hF : ∀ q, va_A wc H.size q → A q) (hP1 : va_P D cl w1 H1) (hD1 : va_D (va_A wc H.size) w1) : va_P D cl (w1 ++ wr) H1 ∧ va_D A (w1 ++ wr) := by
  have hP' := vP_perm hp hP
  have hD' := vD_iff.mp (vD_perm hp hD)
  have hpw := List.pairwise_append.mp hD'.1
  have apart : ∀ q ∈ wr, q.1 < H.size ∧ ¬ va_A wc H.size q.1 := by
    intro q hq
    have hl := (vP_mem.mp hP' q (List.mem_append_right _ hq)).lt
    refine ⟨hl, fun h => ?_⟩
    rcases h with ⟨k2, e, h⟩ | h
    · exact hpw.2.2 (q.1, e) (List.mem_of_getElem? h) q hq rfl
    · omega
  constructor
  · refine vP_mem.mpr (fun q hq => ?_)
    rcases List.mem_append.mp hq with h | h
    · exact vP_mem.mp hP1 q h
    · obtain ⟨g1, g2⟩ := apart q h
      exact (vP_mem.mp hP' q (List.mem_append_right _ h)).kept (hk q.1 g1 g2)
  · have h1 := vD_iff.mp hD1
    refine vD_iff.mpr ⟨List.pairwise_append.mpr ⟨h1.1, hpw.2.1, fun x hx y hy e => (apart y hy).2 (by rw [← e]; exact h1.2 x hx)⟩, fun q hq => ?_⟩
    rcases List.mem_append.mp hq with h | h
    · exact hF _ (h1.2 q h)
    · exact hD'.2 q (List.mem_append_right _ h)
theorem pl_up (h : r.Perm (b ++ r')) : (a ++ r).Perm (b ++ (a ++ r')) := (h.append_left a).trans (List.perm_append_comm_assoc a b r')
theorem pl_cons (h1 : ws.Perm (b ++ r)) (h2 : r.Perm (wc ++ wr)) : ws.Perm ((b ++ wc) ++ wr) := by
  rw [List.append_assoc]
  exact h1.trans (h2.append_left b)
end FRM
section FRC
variable {p : Program} {l : Launch} {e : Env} {R : Room} {s : State} {m : MethodId} {args : Array Value} {below : List Frame} {meth : Method} {c : Code} {H : Heap} {locs : List Loc} {cells slots : Nat} {Q : State → Prop}
variable {cc : ByteArray} {pc : Nat} {ls : Array Slot} {rest st0 : List Value} {D : va_G} {Y : YY} {A : Nat → Prop} {ws wc wr w1 w2 : va_W} {mc ms : Nat}
theorem psb_S {av : List Value} (hK : KK D Y s) (hP : va_P D vwCl ws H) (hD : va_D A ws) (hp : ws.Perm (wc ++ wr)) : PreS s H (va_Pc av (Pst D Y H.size wc)) av :=
  ⟨Pst.blind, fun U hU hW => ⟨rfl, by rw [hU], by rw [hU]; exact vP_l (vP_perm hp hP), hK.warm hW, (vD_l (vD_perm hp hD)).weaken (fun _ _ _ _ => trivial)⟩⟩
theorem psb_V {As : List Value} {C : String} {T : u_T} {N ci b q0 : Nat} {fs : List Value} (hK : KK D Y s) (hP : va_P D vwCl ws H) (hD : va_D A ws) (hp : ws.Perm (wc ++ wr)) (he : wc[q0]? = some (b, .inr (ci, fs))) (hc : vwCl[ci]? = some (C, T, N)) : PreV s H C b (va_Pc (.ref b :: As) (Pst D Y H.size wc)) As :=
  ⟨Pst.blind, va_recv hK.1 (vP_l (vP_perm hp hP)) hc he, fun U hU hW => ⟨rfl, by rw [hU], by rw [hU]; exact vP_l (vP_perm hp hP), hK.warm hW, (vD_l (vD_perm hp hD)).weaken (fun _ _ _ _ => trivial)⟩⟩
theorem cb_i {post : Int32 → va_W → Prop} {a : Array Value} (hr : va_Run p l e R s m args below meth c H locs cells slots mc ms (F0 m pc ls st0) rest (Qsi D post (va_A wc H.size) a) (va_A wc H.size))
    (hP : va_P D vwCl ws H) (hD : va_D A ws) (hS : va_S A s.heap H locs) (hA : ∀ q : Nat, s.heap.size ≤ q → A q) (hp : ws.Perm (wc ++ wr))
    (kk : ∀ (r : Int32) (w1 : va_W) (H1 : Heap) (locs1 : List Loc), post r w1 → va_P D vwCl (w1 ++ wr) H1 → va_D A (w1 ++ wr) → va_S A s.heap H1 locs1 → W p l e R s m args below meth c H1 locs1 (cells + mc) (slots + ms) Q (F0 m (pc + 3) ls (.int r :: rest))) : W p l e R s m args below meth c H locs cells slots Q (F0 m pc ls st0) := by
  have hF := vfree hp hD hS hA
  refine va_calli hr hS (fun q _ h => hF q h) hF (fun r u t H1 locs1 ht hvm hw hB hz1 hk1 hS1 => ?_)
  obtain ⟨hP1, hD1⟩ := hB
  rw [ht] at hP1
  obtain ⟨h1, h2⟩ := vjoin hp hP hD hk1 hF hP1 hD1
  exact kk r u H1 locs1 hw h1 h2 hS1
theorem cb_v {post : va_W → Prop} {a : Array Value} (hr : va_Run p l e R s m args below meth c H locs cells slots mc ms (F0 m pc ls st0) rest (Qsv D post (va_A wc H.size) a) (va_A wc H.size))
    (hP : va_P D vwCl ws H) (hD : va_D A ws) (hS : va_S A s.heap H locs) (hA : ∀ q : Nat, s.heap.size ≤ q → A q) (hp : ws.Perm (wc ++ wr))
    (kk : ∀ (w1 : va_W) (H1 : Heap) (locs1 : List Loc), post w1 → va_P D vwCl (w1 ++ wr) H1 → va_D A (w1 ++ wr) → va_S A s.heap H1 locs1 → W p l e R s m args below meth c H1 locs1 (cells + mc) (slots + ms) Q (F0 m (pc + 3) ls rest)) : W p l e R s m args below meth c H locs cells slots Q (F0 m pc ls st0) := by
  have hF := vfree hp hD hS hA
  refine va_callv hr hS (fun q _ h => hF q h) hF (fun u t H1 locs1 ht hvm hw hB hz1 hk1 hS1 => ?_)
  obtain ⟨hP1, hD1⟩ := hB
  rw [ht] at hP1
  obtain ⟨h1, h2⟩ := vjoin hp hP hD hk1 hF hP1 hD1
  exact kk u H1 locs1 hw h1 h2 hS1
theorem cb_iD {r0 : Int32} {w0 ws' : va_W} {a : Array Value} (hr : va_Run p l e R s m args below meth c H locs cells slots mc ms (F0 m pc ls st0) rest (Qsi D (fun r w => r = r0 ∧ w = w0) (va_A wc H.size) a) (va_A wc H.size))
    (hP : va_P D vwCl ws H) (hD : va_D A ws) (hS : va_S A s.heap H locs) (hA : ∀ q : Nat, s.heap.size ≤ q → A q) (hp : ws.Perm (wc ++ wr)) (hp2 : ws'.Perm (w0 ++ wr))
    (kk : ∀ (H1 : Heap) (locs1 : List Loc), va_P D vwCl ws' H1 → va_D A ws' → va_S A s.heap H1 locs1 → W p l e R s m args below meth c H1 locs1 (cells + mc) (slots + ms) Q (F0 m (pc + 3) ls (.int r0 :: rest))) : W p l e R s m args below meth c H locs cells slots Q (F0 m pc ls st0) := by
  refine cb_i hr hP hD hS hA hp (fun r w1 H1 locs1 hq h1 h2 h3 => ?_)
  obtain ⟨rfl, rfl⟩ := hq
  exact kk H1 locs1 (vP_perm hp2.symm h1) (vD_perm hp2.symm h2) h3
end FRC
/-- a contract, weakened -/
theorem Met.fr {l : Launch} {y : MethodName} {ws : List Cond} {rm : Room} {Pc Pc2 : Array Value → State → Prop} {Qc Qc2 : Array Value → State → Outcome → State → Prop} {mc ms : Nat} {free free2 : Addr → Prop} (h : Met l y ws rm Pc Qc mc ms free) (hP : ∀ a s, Pc2 a s → Pc a s) (hQ : ∀ a s o t, Pc2 a s → Qc a s o t → Qc2 a s o t) (hf : ∀ q, free q → free2 q) : Met l y ws rm Pc2 Qc2 mc ms free2 := by
  intro p e ha hc hk s m args below hs happ hp ht
  obtain ⟨n, o, h1, h2, h3, h4, L, h5, h6⟩ := h p e ha hc hk s m args below hs happ (hP _ _ hp) ht
  exact ⟨n, o, h1, h2, h3, hQ _ _ _ _ hp h4, L, h5, fun q hq => hf _ (h6 q hq)⟩
/-- a contract at a greater world -/
theorem Met.wide {l : Launch} {y : MethodName} {cs : List Cond} {rm : Room} {D : va_G} {Y : YY} {sz : Nat} {av : List Value} {ws wc wr : va_W} {post post2 : Int32 → va_W → Prop} {mc ms : Nat} (h : Met l y cs rm (va_Pc av (Pst D Y sz wc)) (Qsi D post (va_A wc sz)) mc ms (va_A wc sz)) (hp : ws.Perm (wc ++ wr)) (hq : ∀ r w1, post r w1 → ∃ w2, post2 r w2 ∧ w2.Perm (w1 ++ wr)) : Met l y cs rm (va_Pc av (Pst D Y sz ws)) (Qsi D post2 (va_A ws sz)) mc ms (va_A ws sz) := by
  have hF : ∀ q, va_A wc sz q → va_A ws sz q := by
    intro q h
    rcases h with ⟨k, e, h⟩ | h
    · obtain ⟨j, hj⟩ := List.mem_iff_getElem?.mp (hp.mem_iff.mpr (List.mem_append_left wr (List.mem_of_getElem? h)))
      exact Or.inl ⟨j, e, hj⟩
    · exact Or.inr h
  refine h.fr ?_ ?_ hF
  · intro a s h
    obtain ⟨rfl, h1, h2, h3, h4⟩ := h
    exact ⟨rfl, h1, vP_l (vP_perm hp h2), h3, vD_l (vD_perm hp h4)⟩
  · intro a s o t h hQ
    obtain ⟨rfl, h1, h2, h3, h4⟩ := h
    obtain ⟨⟨r, u, rfl, hpo, hB⟩, hz, hk⟩ := hQ
    obtain ⟨hP1, hD1⟩ := hB
    subst h1
    obtain ⟨g1, g2⟩ := vjoin (A := va_A ws s.heap.size) hp h2 h4.self hk hF hP1 hD1
    obtain ⟨w2, hw, hp2⟩ := hq r u hpo
    exact ⟨⟨r, w2, rfl, hw, vP_perm hp2.symm g1, vD_perm hp2.symm g2⟩, hz, fun q h1 h2 => hk q h1 (fun z => h2 (hF q z))⟩
