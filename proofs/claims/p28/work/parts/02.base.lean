/-! the judgement V: like the kit's W, with heap, locals and written places left out: the world is the list w, the locals the list L -/
def tyl (cy : Nat → ClassId) : List (ClassId × FieldType) := [(cy 0, .int), (cy 2, .object "GreenMachines$Machine")]
def rmz (F L : Nat) : Room := { frames := F, cells := 0, slots := 0, locals := L }
def rmx (F L : Nat) : Room := { frames := F, cells := 1, slots := 6, locals := L }
theorem mm {α : Type} {l : List α} {x : α} (i : Nat) (h : l[i]? = some x) : x ∈ l := List.mem_of_getElem? h
/-- the private static members that a nest mate links -/
def nestG (U : State) : Prop := va_Nw (.methodLinkNest RX3 73 yX7_has RX7) U ∧ va_Nw (.methodLinkNest RX2 54 yX7_has RX7) U ∧ True ∧ va_Nw (.methodLinkNest RX1 89 yX7_has RX7) U
theorem nestG.warm {s U : State} (hW : s.WarmedH U.vm) (h : nestG s) : nestG U := ⟨va_Nw.warmM hW h.1, va_Nw.warmM hW h.2.1, trivial, va_Nw.warmM hW h.2.2.2⟩
theorem nestG.same {u U : State} (hv : u.vm = U.vm) (h : nestG u) : nestG U := ⟨va_Nw.same rfl hv h.1, va_Nw.same rfl hv h.2.1, trivial, va_Nw.same rfl hv h.2.2.2⟩
def ok_Pre (D : va_G) (cy : Nat → ClassId) (as : List Value) (w : va_W) (sz : Nat) : Array Value → State → Prop :=
  va_Pc as (fun U => U.heap.size = sz ∧ va_P D vwCl w U.heap ∧ va_K D vwCl (tyl cy) U ∧ va_D (fun _ => True) w ∧ nestG U)
def ok_Q (D : va_G) (w' : va_W) (out : Option Value) (A : Nat → Prop) : Array Value → State → Outcome → State → Prop :=
  fun _ st oc t => (oc = .returned out ∧ va_P D vwCl w' t.heap) ∧ va_F A st t
/-- from the world w, with the arguments as, the method returns out and leaves the world w'; it makes nothing -/
def okM (l : Launch) (y : MethodName) (ws : List Cond) (rm : Room) (D : va_G) (cy : Nat → ClassId) (as : List Value) (w w' : va_W) (out : Option Value) : Prop :=
  ∀ sz : Nat, Met l y ws rm (ok_Pre D cy as w sz) (ok_Q D w' out (va_A w sz)) 0 0 (va_A w sz)
theorem ok_blind (D : va_G) (cy : Nat → ClassId) (as : List Value) (w : va_W) (sz : Nat) : FrameBlind (ok_Pre D cy as w sz) := by
  intro a U g mk q
  obtain ⟨q0, q1, qP, qK, qD, qN⟩ := q
  exact ⟨q0, q1, qP, va_K.moved (u := U) (U := U.calling g mk a) (Vm.Alike.refl U.vm) qK, qD, nestG.same (u := U) (U := U.calling g mk a) rfl qN⟩
def V (p : Program) (l : Launch) (e : Env) (R : Room) (s : State) (m : MethodId) (args : Array Value) (below : List Frame) (meth : Method) (c : Code) (nL : Nat) (D : va_G) (A : Nat → Prop) (cells slots : Nat) (Q : State → Prop) (w : va_W) (L : List (Nat × Value)) (st : List Value) (pc : Nat) : Prop :=
  ∀ (H : Heap) (locs : List Loc) (ls : Array Slot), va_P D vwCl w H → va_D A w → va_S A s.heap H locs → lv_has ls nL L → W p l e R s m args below meth c H locs cells slots Q (F0 m pc ls st)
/-- what stays true over a walk of one method -/
def Fx (p : Program) (s : State) (m : MethodId) (args : Array Value) (meth : Method) (c : Code) (cc : ByteArray) (nL : Nat) (own nme : String) (Ts : List Cond) (ret : Option FieldType) (D : va_G) (cy : Nat → ClassId) (A : Nat → Prop) : Prop :=
  p.tables.exec = Jvm.exec ∧ c.code = cc ∧ c.maxLocals = nL ∧ s.vm.findClass own = some m.cls ∧ (∀ w ∈ Ts, w.before args s = true) ∧ meth.sig.returnType = ret ∧ meth.locks = false ∧ va_K D vwCl (tyl cy) s ∧ (∀ q : Nat, s.heap.size ≤ q → A q) ∧ meth.name = nme ∧ nestG s
def reps : va_W → List Nat → va_W → va_W
  | ws, [], _ => ws
  | ws, _ :: _, [] => ws
  | ws, i :: is, x :: xs => reps (ws.set i x) is xs
theorem reps_get : ∀ (is : List Nat) (w1 ws : va_W), va_nd is = true → w1.length = is.length → (∀ i ∈ is, i < ws.length) → ∀ (k : Nat) (q : Nat × va_E), (reps ws is w1)[k]? = some q → (∃ j : Nat, is[j]? = some k ∧ w1[j]? = some q) ∨ (k ∉ is ∧ ws[k]? = some q)
  | [], w1, ws, _, _, _, k, q, h => Or.inr ⟨List.not_mem_nil, by cases w1 <;> exact h⟩
  | i :: is, [], ws, _, hl, _, k, q, h => by simp at hl
  | i :: is, x :: xs, ws, hn, hl, hb, k, q, h => by
    simp only [va_nd, Bool.and_eq_true, decide_eq_true_eq] at hn
    have hl2 : xs.length = is.length := by simpa using hl
    have h2 : (reps (ws.set i x) is xs)[k]? = some q := h
    rcases reps_get is xs (ws.set i x) hn.2 hl2 (fun j hj => by rw [List.length_set]; exact hb j (List.mem_cons_of_mem _ hj)) k q h2 with ⟨j, h3, h4⟩ | ⟨h3, h4⟩
    · exact Or.inl ⟨j + 1, by simpa using h3, by simpa using h4⟩
    · by_cases hk : k = i
      · subst hk
        rw [List.getElem?_set_self (hb k List.mem_cons_self)] at h4
        exact Or.inl ⟨0, rfl, h4⟩
      · rw [List.getElem?_set_ne (Ne.symm hk)] at h4
        exact Or.inr ⟨fun z => (List.mem_cons.mp z).elim hk h3, h4⟩
theorem at_of_map {is : List Nat} {ws wc : va_W} (hC : is.map (fun i => ws[i]?) = wc.map some) {k : Nat} {q : Nat × va_E} (h : wc[k]? = some q) : ∃ i, is[k]? = some i ∧ ws[i]? = some q := by
  have h1 : (is.map (fun i => ws[i]?))[k]? = some (some q) := by rw [hC, List.getElem?_map, h]; rfl
  rw [List.getElem?_map] at h1
  cases hi : is[k]? with
  | none => rw [hi] at h1; cases h1
  | some i => rw [hi] at h1; exact ⟨i, rfl, Option.some.inj h1⟩
theorem at_of_map2 {is : List Nat} {ws wc : va_W} (hC : is.map (fun i => ws[i]?) = wc.map some) {k i : Nat} (h : is[k]? = some i) : ∃ q, wc[k]? = some q ∧ ws[i]? = some q := by
  have h1 : (wc.map some)[k]? = some (ws[i]?) := by rw [← hC, List.getElem?_map, h]; rfl
  rw [List.getElem?_map] at h1
  cases hq : wc[k]? with
  | none => rw [hq] at h1; cases h1
  | some q => rw [hq] at h1; exact ⟨q, rfl, (Option.some.inj h1).symm⟩
theorem va_P.cut {D : va_G} {is : List Nat} {ws wc : va_W} {H : Heap} (hP : va_P D vwCl ws H) (hC : is.map (fun i => ws[i]?) = wc.map some) : va_P D vwCl wc H := fun k q hk => by
  obtain ⟨i, -, h2⟩ := at_of_map hC hk
  exact hP i q h2
/-- behind a call whose cells lie at the places is: they hold w1, at the same addresses; the others are as they were -/
theorem va_reps {A0 : Nat → Prop} {D : va_G} {ws wc w1 : va_W} {H H1 : Heap} {is : List Nat} (hP : va_P D vwCl ws H) (hD : va_D A0 ws) (hC : is.map (fun i => ws[i]?) = wc.map some) (hn : va_nd is = true)
    (hk : ∀ q : Nat, q < H.size → ¬ va_A wc H.size q → H1[q]? = H[q]?) (hf : w1.map (·.1) = wc.map (·.1)) (hP1 : va_P D vwCl w1 H1) : va_P D vwCl (reps ws is w1) H1 ∧ va_D A0 (reps ws is w1) := by
  have hlw : wc.length = is.length := by have h := congrArg List.length hC; simpa using h.symm
  have hl1 : w1.length = is.length := by have h := congrArg List.length hf; simp at h; omega
  have hb : ∀ i ∈ is, i < ws.length := fun i hi => by
    obtain ⟨k, hk⟩ := List.getElem?_of_mem hi
    obtain ⟨q, -, h2⟩ := at_of_map2 hC hk
    exact (List.getElem?_eq_some_iff.mp h2).1
  have key := reps_get is w1 ws hn hl1 hb
  have same : ∀ (k : Nat) (q : Nat × va_E), (reps ws is w1)[k]? = some q → ∃ q0, ws[k]? = some q0 ∧ q0.1 = q.1 := by
    intro k q h
    rcases key k q h with ⟨j, h1, h2⟩ | ⟨-, h2⟩
    · obtain ⟨q0, h3, h4⟩ := at_of_map2 hC h1
      refine ⟨q0, h4, ?_⟩
      have h5 : (w1.map (·.1))[j]? = some q.1 := by rw [List.getElem?_map, h2]; rfl
      rw [hf, List.getElem?_map, h3] at h5
      exact Option.some.inj h5
    · exact ⟨q, h2, rfl⟩
  refine ⟨fun k q h => ?_, fun i j x y hi hj hxy => ?_, fun k q h => ?_⟩
  · rcases key k q h with ⟨j, -, h2⟩ | ⟨h1, h2⟩
    · exact hP1 j q h2
    · refine (hP k q h2).kept (hk q.1 (hP k q h2).lt (fun z => ?_))
      rcases z with ⟨j, e, h3⟩ | h3
      · obtain ⟨i, h4, h5⟩ := at_of_map hC h3
        have hij := hD.1 k i q (q.1, e) h2 h5 rfl
        subst hij
        exact h1 (List.mem_of_getElem? h4)
      · exact absurd (hP k q h2).lt (Nat.not_lt.mpr h3)
  · obtain ⟨x0, h1, h2⟩ := same i x hi
    obtain ⟨y0, h3, h4⟩ := same j y hj
    exact hD.1 i j x0 y0 h1 h3 (h2.trans (hxy.trans h4.symm))
  · obtain ⟨q0, h1, h2⟩ := same k q h
    rw [← h2]
    exact hD.2 k q0 h1
/-- a callee's cells wc lie in w at the places is; put: the world with other contents there -/
def Fit (w : va_W) (is : List Nat) (wc : va_W) (put : va_W → va_W) : Prop :=
  is.map (fun i => w[i]?) = wc.map some ∧ va_nd is = true ∧ ∀ x : va_W, x.map (·.1) = wc.map (·.1) → reps w is x = put x
def Fit2 (w : va_W) (is : List Nat) (w1 w2 : va_W) (put : va_W → va_W → va_W) : Prop :=
  is.map (fun i => w[i]?) = (w1 ++ w2).map some ∧ va_nd is = true ∧ ∀ x y : va_W, x.map (·.1) = w1.map (·.1) → y.map (·.1) = w2.map (·.1) → reps w is (x ++ y) = put x y
theorem fst_app {a b c d : va_W} (h1 : a.map (·.1) = c.map (·.1)) (h2 : b.map (·.1) = d.map (·.1)) : (a ++ b).map (·.1) = (c ++ d).map (·.1) := by rw [List.map_append, List.map_append, h1, h2]
theorem nd_iff : ∀ (l : List Nat), va_nd l = true ↔ l.Nodup
  | [] => by simp [va_nd]
  | a :: l => by simp [va_nd, nd_iff l]
theorem in_lt {is : List Nat} {w wc : va_W} (h : is.map (fun i => w[i]?) = wc.map some) : ∀ i ∈ is, i < w.length := fun i hi => by
  obtain ⟨k, hk⟩ := List.getElem?_of_mem hi
  obtain ⟨q, -, h2⟩ := at_of_map2 h hk
  exact (List.getElem?_eq_some_iff.mp h2).1
theorem reps_left : ∀ (is : List Nat) (x w1 w2 : va_W), (∀ i ∈ is, i < w1.length) → reps (w1 ++ w2) is x = reps w1 is x ++ w2
  | [], x, w1, w2, _ => by cases x <;> rfl
  | _ :: _, [], _, _, _ => rfl
  | i :: is, y :: ys, w1, w2, h => by
    show reps ((w1 ++ w2).set i y) is ys = reps (w1.set i y) is ys ++ w2
    rw [List.set_append_left _ _ (h i List.mem_cons_self)]
    exact reps_left is ys _ w2 (fun j hj => by rw [List.length_set]; exact h j (List.mem_cons_of_mem _ hj))
theorem reps_right : ∀ (is : List Nat) (x w1 w2 : va_W), reps (w1 ++ w2) (is.map (· + w1.length)) x = w1 ++ reps w2 is x
  | [], x, w1, w2 => by cases x <;> rfl
  | _ :: _, [], _, _ => rfl
  | i :: is, y :: ys, w1, w2 => by
    show reps ((w1 ++ w2).set (i + w1.length) y) (is.map (· + w1.length)) ys = w1 ++ reps (w2.set i y) is ys
    rw [List.set_append_right _ _ (by omega), Nat.add_sub_cancel]
    exact reps_right is ys w1 _
theorem map_left {is : List Nat} {w1 w2 wc : va_W} (h : is.map (fun i => w1[i]?) = wc.map some) : is.map (fun i => (w1 ++ w2)[i]?) = wc.map some := by
  rw [← h]
  apply List.map_congr_left
  intro i hi
  exact List.getElem?_append_left (in_lt h i hi)
theorem map_right {is : List Nat} {w1 w2 wc : va_W} (h : is.map (fun i => w2[i]?) = wc.map some) : (is.map (· + w1.length)).map (fun i => (w1 ++ w2)[i]?) = wc.map some := by
  rw [← h, List.map_map]
  apply List.map_congr_left
  intro i hi
  show (w1 ++ w2)[i + w1.length]? = w2[i]?
  rw [List.getElem?_append_right (by omega), Nat.add_sub_cancel]
theorem nd_right {is : List Nat} (n : Nat) (h : va_nd is = true) : va_nd (is.map (· + n)) = true := by
  rw [nd_iff] at h ⊢
  exact List.Pairwise.map _ (fun a b hab => by omega) h
theorem reps_range : ∀ (k : Nat) (pre w x : va_W), pre.length = k → x.length = w.length → reps (pre ++ w) (List.range' k w.length) x = pre ++ x
  | k, pre, [], x, _, hx => by
    cases x with
    | nil => rfl
    | cons a b => simp at hx
  | k, pre, a :: w, x, hp, hx => by
    cases x with
    | nil => simp at hx
    | cons b x =>
      show reps ((pre ++ a :: w).set k b) (List.range' (k + 1) w.length) x = pre ++ b :: x
      rw [List.set_append_right _ _ (by omega), hp, Nat.sub_self]
      have h := reps_range (k + 1) (pre ++ [b]) w x (by simp [hp]) (by simpa using hx)
      simpa using h
theorem Fit.whole {w : va_W} : Fit w (List.range' 0 w.length) w (fun x => x) := by
  refine ⟨?_, ?_, fun x hx => ?_⟩
  · apply List.ext_getElem?
    intro k
    rw [List.getElem?_map, List.getElem?_map]
    by_cases hk : k < w.length
    · rw [List.getElem?_range' hk, List.getElem?_eq_getElem hk]
      simp [hk]
    · rw [List.getElem?_eq_none (by simp; omega), List.getElem?_eq_none (by omega)]
      rfl
  · rw [nd_iff]
    exact List.nodup_range'
  · have h := congrArg List.length hx
    have h2 := reps_range 0 [] w x rfl (by simpa using h)
    simpa using h2
theorem Fit.left {w1 w2 wc : va_W} {is : List Nat} {put : va_W → va_W} (h : Fit w1 is wc put) : Fit (w1 ++ w2) is wc (fun x => put x ++ w2) :=
  ⟨map_left h.1, h.2.1, fun x hx => by rw [reps_left is x w1 w2 (in_lt h.1), h.2.2 x hx]⟩
theorem Fit.right {w1 w2 wc : va_W} {is : List Nat} {put : va_W → va_W} (h : Fit w2 is wc put) : Fit (w1 ++ w2) (is.map (· + w1.length)) wc (fun x => w1 ++ put x) :=
  ⟨map_right h.1, nd_right _ h.2.1, fun x hx => by rw [reps_right, h.2.2 x hx]⟩
theorem reps_app : ∀ (is js : List Nat) (x y w : va_W), x.length = is.length → reps w (is ++ js) (x ++ y) = reps (reps w is x) js y
  | [], js, x, y, w, h => by
    cases x with
    | nil => cases js <;> cases y <;> rfl
    | cons a b => simp at h
  | i :: is, js, [], y, w, h => by simp at h
  | i :: is, js, a :: x, y, w, h => by
    show reps (w.set i a) (is ++ js) (x ++ y) = reps (reps (w.set i a) is x) js y
    exact reps_app is js x y _ (by simpa using h)
theorem reps_len : ∀ (is : List Nat) (x w : va_W), (reps w is x).length = w.length
  | [], x, w => by cases x <;> rfl
  | _ :: _, [], _ => rfl
  | i :: is, y :: ys, w => by
    show (reps (w.set i y) is ys).length = w.length
    rw [reps_len is ys, List.length_set]
theorem nd_app {is js : List Nat} {n : Nat} (h1 : va_nd is = true) (h2 : va_nd js = true) (h : ∀ i ∈ is, i < n) : va_nd (is ++ js.map (· + n)) = true := by
  rw [nd_iff] at h1 h2 ⊢
  rw [List.nodup_append]
  refine ⟨h1, List.Pairwise.map _ (fun a b hab => by omega) h2, fun a ha b hb => ?_⟩
  obtain ⟨c, -, rfl⟩ := List.mem_map.mp hb
  have := h a ha
  omega
theorem nd_app' {is js : List Nat} {n : Nat} (h1 : va_nd is = true) (h2 : va_nd js = true) (h : ∀ i ∈ js, i < n) : va_nd (is.map (· + n) ++ js) = true := by
  rw [nd_iff] at h1 h2 ⊢
  rw [List.nodup_append]
  refine ⟨List.Pairwise.map _ (fun a b hab => by omega) h1, h2, fun a ha b hb => ?_⟩
  obtain ⟨c, -, rfl⟩ := List.mem_map.mp ha
  have := h b hb
  omega
theorem len_of {is : List Nat} {w wc : va_W} (h : is.map (fun i => w[i]?) = wc.map some) : is.length = wc.length := by simpa using congrArg List.length h
theorem Fit2.both {w1 w2 c1 c2 : va_W} {is js : List Nat} {p1 p2 : va_W → va_W} (h1 : Fit w1 is c1 p1) (h2 : Fit w2 js c2 p2) : Fit2 (w1 ++ w2) (is ++ js.map (· + w1.length)) c1 c2 (fun x y => p1 x ++ p2 y) := by
  refine ⟨?_, nd_app h1.2.1 h2.2.1 (in_lt h1.1), fun x y hx hy => ?_⟩
  · rw [List.map_append, List.map_append, map_left h1.1, map_right h2.1]
  · have hl : x.length = is.length := by have h := congrArg List.length hx; simp at h; rw [h, len_of h1.1]
    rw [reps_app _ _ _ _ _ hl, reps_left is x w1 w2 (in_lt h1.1)]
    have e : w1.length = (reps w1 is x).length := (reps_len is x w1).symm
    rw [e, reps_right, h1.2.2 x hx, h2.2.2 y hy]
theorem Fit2.swap {w1 w2 c1 c2 : va_W} {is js : List Nat} {p1 p2 : va_W → va_W} (h1 : Fit w2 is c1 p1) (h2 : Fit w1 js c2 p2) : Fit2 (w1 ++ w2) (is.map (· + w1.length) ++ js) c1 c2 (fun x y => p2 y ++ p1 x) := by
  refine ⟨?_, nd_app' h1.2.1 h2.2.1 (in_lt h2.1), fun x y hx hy => ?_⟩
  · rw [List.map_append, List.map_append, map_right h1.1, map_left h2.1]
  · have hl : x.length = (is.map (· + w1.length)).length := by have h := congrArg List.length hx; simp at h; rw [List.length_map, h, len_of h1.1]
    rw [reps_app _ _ _ _ _ hl, reps_right, reps_left js y w1 _ (in_lt h2.1), h1.2.2 x hx, h2.2.2 y hy]
theorem Fit2.left {w1 w2 c1 c2 : va_W} {is : List Nat} {put : va_W → va_W → va_W} (h : Fit2 w1 is c1 c2 put) : Fit2 (w1 ++ w2) is c1 c2 (fun x y => put x y ++ w2) :=
  ⟨map_left h.1, h.2.1, fun x y hx hy => by rw [reps_left is _ w1 w2 (in_lt h.1), h.2.2 x y hx hy]⟩
theorem Fit2.right {w1 w2 c1 c2 : va_W} {is : List Nat} {put : va_W → va_W → va_W} (h : Fit2 w2 is c1 c2 put) : Fit2 (w1 ++ w2) (is.map (· + w1.length)) c1 c2 (fun x y => w1 ++ put x y) :=
  ⟨map_right h.1, nd_right _ h.2.1, fun x y hx hy => by rw [reps_right, h.2.2 x y hx hy]⟩
theorem Fit.nil {w : va_W} : Fit w [] [] (fun _ => w) := ⟨rfl, rfl, fun x _ => by cases x <;> rfl⟩
section VV
variable {p : Program} {l : Launch} {e : Env} {R : Room} {s : State} {m : MethodId} {args : Array Value} {below : List Frame} {meth : Method} {c : Code} {nL : Nat} {own nme : String} {Ts : List Cond} {ret : Option FieldType} {D : va_G} {cy : Nat → ClassId} {A : Nat → Prop} {cells slots : Nat} {Q : State → Prop} {w : va_W} {L : List (Nat × Value)} {rest : List Value} {pc : Nat} {cc : ByteArray}
theorem Fx.exec (F : Fx p s m args meth c cc nL own nme Ts ret D cy A) : p.tables.exec = Jvm.exec := F.1
theorem Fx.code (F : Fx p s m args meth c cc nL own nme Ts ret D cy A) : c.code = cc := F.2.1
theorem Fx.ml (F : Fx p s m args meth c cc nL own nme Ts ret D cy A) : c.maxLocals = nL := F.2.2.1
theorem Fx.fown (F : Fx p s m args meth c cc nL own nme Ts ret D cy A) : s.vm.findClass own = some m.cls := F.2.2.2.1
theorem Fx.ts (F : Fx p s m args meth c cc nL own nme Ts ret D cy A) : ∀ w ∈ Ts, w.before args s = true := F.2.2.2.2.1
theorem Fx.fret (F : Fx p s m args meth c cc nL own nme Ts ret D cy A) : meth.sig.returnType = ret := F.2.2.2.2.2.1
theorem Fx.locks (F : Fx p s m args meth c cc nL own nme Ts ret D cy A) : meth.locks = false := F.2.2.2.2.2.2.1
theorem Fx.K (F : Fx p s m args meth c cc nL own nme Ts ret D cy A) : va_K D vwCl (tyl cy) s := F.2.2.2.2.2.2.2.1
theorem Fx.new (F : Fx p s m args meth c cc nL own nme Ts ret D cy A) : ∀ q : Nat, s.heap.size ≤ q → A q := F.2.2.2.2.2.2.2.2.1
theorem Fx.nm (F : Fx p s m args meth c cc nL own nme Ts ret D cy A) : meth.name = nme := F.2.2.2.2.2.2.2.2.2.1
theorem Fx.nest (F : Fx p s m args meth c cc nL own nme Ts ret D cy A) : nestG s := F.2.2.2.2.2.2.2.2.2.2
theorem Fx.fix (F : Fx p s m args meth c cc nL own nme Ts ret D cy A) : CallFix p m c cc nL s args Ts own := ⟨F.exec, F.code, F.ml, F.fown, F.ts⟩
theorem V.eq {w2 : va_W} {st2 st : List Value} {L2 : List (Nat × Value)} (h1 : w = w2) (h2 : L = L2) (h3 : st = st2) (k : V p l e R s m args below meth c nL D A cells slots Q w2 L2 st2 pc) : V p l e R s m args below meth c nL D A cells slots Q w L st pc := by subst h1; subst h2; subst h3; exact k
theorem V.sub {L2 : List (Nat × Value)} {st : List Value} (ks : List Nat) (h : lv_pick L ks = L2) (k : V p l e R s m args below meth c nL D A cells slots Q w L2 st pc) : V p l e R s m args below meth c nL D A cells slots Q w L st pc := fun H locs ls hP hD hS hl => k H locs ls hP hD hS (lv_sub hl ks h)
theorem V_iconst (F : Fx p s m args meth c cc nL own nme Ts ret D cy A) {n : Int} {v : Int32} (d : decode cc pc = .ok (.iconst n, 1)) (hv : Int32.ofInt n = v) (k : V p l e R s m args below meth c nL D A cells slots Q w L (.int v :: rest) (pc + 1)) : V p l e R s m args below meth c nL D A cells slots Q w L rest pc := fun H locs ls hP hD hS hl => lv_iconst F.exec F.code d hv (k H locs ls hP hD hS hl)
theorem V_bipush (F : Fx p s m args meth c cc nL own nme Ts ret D cy A) {n : Int} {v : Int32} (d : decode cc pc = .ok (.bipush n, 2)) (hv : (Int8.ofInt n).toInt32 = v) (k : V p l e R s m args below meth c nL D A cells slots Q w L (.int v :: rest) (pc + 2)) : V p l e R s m args below meth c nL D A cells slots Q w L rest pc := fun H locs ls hP hD hS hl => lv_bipush F.exec F.code d hv (k H locs ls hP hD hS hl)
theorem V_sipush (F : Fx p s m args meth c cc nL own nme Ts ret D cy A) {n : Int} {v : Int32} (d : decode cc pc = .ok (.sipush n, 3)) (hv : (Int16.ofInt n).toInt32 = v) (k : V p l e R s m args below meth c nL D A cells slots Q w L (.int v :: rest) (pc + 3)) : V p l e R s m args below meth c nL D A cells slots Q w L rest pc := fun H locs ls hP hD hS hl => lv_sipush F.exec F.code d hv (k H locs ls hP hD hS hl)
theorem V_lconst (F : Fx p s m args meth c cc nL own nme Ts ret D cy A) {n : Fin 2} {v : Int64} (d : decode cc pc = .ok (.lconst n, 1)) (hv : Int64.ofNat (n : Nat) = v) (k : V p l e R s m args below meth c nL D A cells slots Q w L (.long v :: rest) (pc + 1)) : V p l e R s m args below meth c nL D A cells slots Q w L rest pc := fun H locs ls hP hD hS hl => lv_lconst F.exec F.code d hv (k H locs ls hP hD hS hl)
theorem V_dconst0 (F : Fx p s m args meth c cc nL own nme Ts ret D cy A)  (d : decode cc pc = .ok (.dconst 0, 1)) (k : V p l e R s m args below meth c nL D A cells slots Q w L (.double FP.dconst0 :: rest) (pc + 1)) : V p l e R s m args below meth c nL D A cells slots Q w L rest pc := fun H locs ls hP hD hS hl => lv_dconst0 F.exec F.code d (k H locs ls hP hD hS hl)
theorem V_dconst1 (F : Fx p s m args meth c cc nL own nme Ts ret D cy A)  (d : decode cc pc = .ok (.dconst 1, 1)) (k : V p l e R s m args below meth c nL D A cells slots Q w L (.double FP.dconst1 :: rest) (pc + 1)) : V p l e R s m args below meth c nL D A cells slots Q w L rest pc := fun H locs ls hP hD hS hl => lv_dconst1 F.exec F.code d (k H locs ls hP hD hS hl)
theorem V_iload_n (F : Fx p s m args meth c cc nL own nme Ts ret D cy A) {k0 : Fin 4} {i : Nat} {x : Int32} (d : decode cc pc = .ok (.iload_n k0, 1)) (hi : (k0 : Nat) = i) (j : Nat) (hj : L[j]? = some (i, .int x)) (k : V p l e R s m args below meth c nL D A cells slots Q w L (.int x :: rest) (pc + 1)) : V p l e R s m args below meth c nL D A cells slots Q w L rest pc := fun H locs ls hP hD hS hl => lv_iload_n F.exec F.code d hi (lv_at hl j hj) (k H locs ls hP hD hS hl)
theorem V_iload (F : Fx p s m args meth c cc nL own nme Ts ret D cy A) {i : Nat} {x : Int32} (d : decode cc pc = .ok (.iload i, 2)) (j : Nat) (hj : L[j]? = some (i, .int x)) (k : V p l e R s m args below meth c nL D A cells slots Q w L (.int x :: rest) (pc + 2)) : V p l e R s m args below meth c nL D A cells slots Q w L rest pc := fun H locs ls hP hD hS hl => lv_iload F.exec F.code d (lv_at hl j hj) (k H locs ls hP hD hS hl)
theorem V_istore_n (F : Fx p s m args meth c cc nL own nme Ts ret D cy A) {k0 : Fin 4} {i : Nat} {x : Int32} {L2 : List (Nat × Value)} (d : decode cc pc = .ok (.istore_n k0, 1)) (hi : (k0 : Nat) = i) (hn : i < nL) (hL : (i, Value.int x) :: L.filter (fun q => !(q.1 == i) && !(q.1 + 1 == i && q.2.category == 2)) = L2) (k : V p l e R s m args below meth c nL D A cells slots Q w L2 rest (pc + 1)) : V p l e R s m args below meth c nL D A cells slots Q w L (.int x :: rest) pc := fun H locs ls hP hD hS hl => lv_istore_n F.exec F.code d hi hl hn hL (fun ls2 hl2 => k H locs ls2 hP hD hS hl2)
theorem V_istore (F : Fx p s m args meth c cc nL own nme Ts ret D cy A) {i : Nat} {x : Int32} {L2 : List (Nat × Value)} (d : decode cc pc = .ok (.istore i, 2)) (hn : i < nL) (hL : (i, Value.int x) :: L.filter (fun q => !(q.1 == i) && !(q.1 + 1 == i && q.2.category == 2)) = L2) (k : V p l e R s m args below meth c nL D A cells slots Q w L2 rest (pc + 2)) : V p l e R s m args below meth c nL D A cells slots Q w L (.int x :: rest) pc := fun H locs ls hP hD hS hl => lv_istore F.exec F.code d hl hn hL (fun ls2 hl2 => k H locs ls2 hP hD hS hl2)
theorem V_lload_n (F : Fx p s m args meth c cc nL own nme Ts ret D cy A) {k0 : Fin 4} {i : Nat} {x : Int64} (d : decode cc pc = .ok (.lload_n k0, 1)) (hi : (k0 : Nat) = i) (j : Nat) (hj : L[j]? = some (i, .long x)) (k : V p l e R s m args below meth c nL D A cells slots Q w L (.long x :: rest) (pc + 1)) : V p l e R s m args below meth c nL D A cells slots Q w L rest pc := fun H locs ls hP hD hS hl => lv_lload_n F.exec F.code d hi (lv_at hl j hj) (k H locs ls hP hD hS hl)
theorem V_lload (F : Fx p s m args meth c cc nL own nme Ts ret D cy A) {i : Nat} {x : Int64} (d : decode cc pc = .ok (.lload i, 2)) (j : Nat) (hj : L[j]? = some (i, .long x)) (k : V p l e R s m args below meth c nL D A cells slots Q w L (.long x :: rest) (pc + 2)) : V p l e R s m args below meth c nL D A cells slots Q w L rest pc := fun H locs ls hP hD hS hl => lv_lload F.exec F.code d (lv_at hl j hj) (k H locs ls hP hD hS hl)
theorem V_lstore_n (F : Fx p s m args meth c cc nL own nme Ts ret D cy A) {k0 : Fin 4} {i : Nat} {x : Int64} {L2 : List (Nat × Value)} (d : decode cc pc = .ok (.lstore_n k0, 1)) (hi : (k0 : Nat) = i) (hn : i + 1 < nL) (hL : (i, Value.long x) :: L.filter (fun q => !(q.1 == i) && (!(q.1 == i + 1) && !(q.1 + 1 == i && q.2.category == 2))) = L2) (k : V p l e R s m args below meth c nL D A cells slots Q w L2 rest (pc + 1)) : V p l e R s m args below meth c nL D A cells slots Q w L (.long x :: rest) pc := fun H locs ls hP hD hS hl => lv_lstore_n F.exec F.code d hi hl hn hL (fun ls2 hl2 => k H locs ls2 hP hD hS hl2)
theorem V_lstore (F : Fx p s m args meth c cc nL own nme Ts ret D cy A) {i : Nat} {x : Int64} {L2 : List (Nat × Value)} (d : decode cc pc = .ok (.lstore i, 2)) (hn : i + 1 < nL) (hL : (i, Value.long x) :: L.filter (fun q => !(q.1 == i) && (!(q.1 == i + 1) && !(q.1 + 1 == i && q.2.category == 2))) = L2) (k : V p l e R s m args below meth c nL D A cells slots Q w L2 rest (pc + 2)) : V p l e R s m args below meth c nL D A cells slots Q w L (.long x :: rest) pc := fun H locs ls hP hD hS hl => lv_lstore F.exec F.code d hl hn hL (fun ls2 hl2 => k H locs ls2 hP hD hS hl2)
theorem V_aload_n (F : Fx p s m args meth c cc nL own nme Ts ret D cy A) {k0 : Fin 4} {i : Nat} {x : Nat} (d : decode cc pc = .ok (.aload_n k0, 1)) (hi : (k0 : Nat) = i) (j : Nat) (hj : L[j]? = some (i, .ref x)) (k : V p l e R s m args below meth c nL D A cells slots Q w L (.ref x :: rest) (pc + 1)) : V p l e R s m args below meth c nL D A cells slots Q w L rest pc := fun H locs ls hP hD hS hl => lv_aload_n F.exec F.code d hi (lv_at hl j hj) (k H locs ls hP hD hS hl)
theorem V_aload (F : Fx p s m args meth c cc nL own nme Ts ret D cy A) {i : Nat} {x : Nat} (d : decode cc pc = .ok (.aload i, 2)) (j : Nat) (hj : L[j]? = some (i, .ref x)) (k : V p l e R s m args below meth c nL D A cells slots Q w L (.ref x :: rest) (pc + 2)) : V p l e R s m args below meth c nL D A cells slots Q w L rest pc := fun H locs ls hP hD hS hl => lv_aload F.exec F.code d (lv_at hl j hj) (k H locs ls hP hD hS hl)
theorem V_astore_n (F : Fx p s m args meth c cc nL own nme Ts ret D cy A) {k0 : Fin 4} {i : Nat} {x : Nat} {L2 : List (Nat × Value)} (d : decode cc pc = .ok (.astore_n k0, 1)) (hi : (k0 : Nat) = i) (hn : i < nL) (hL : (i, Value.ref x) :: L.filter (fun q => !(q.1 == i) && !(q.1 + 1 == i && q.2.category == 2)) = L2) (k : V p l e R s m args below meth c nL D A cells slots Q w L2 rest (pc + 1)) : V p l e R s m args below meth c nL D A cells slots Q w L (.ref x :: rest) pc := fun H locs ls hP hD hS hl => lv_astore_n F.exec F.code d hi hl hn hL (fun ls2 hl2 => k H locs ls2 hP hD hS hl2)
theorem V_astore (F : Fx p s m args meth c cc nL own nme Ts ret D cy A) {i : Nat} {x : Nat} {L2 : List (Nat × Value)} (d : decode cc pc = .ok (.astore i, 2)) (hn : i < nL) (hL : (i, Value.ref x) :: L.filter (fun q => !(q.1 == i) && !(q.1 + 1 == i && q.2.category == 2)) = L2) (k : V p l e R s m args below meth c nL D A cells slots Q w L2 rest (pc + 2)) : V p l e R s m args below meth c nL D A cells slots Q w L (.ref x :: rest) pc := fun H locs ls hP hD hS hl => lv_astore F.exec F.code d hl hn hL (fun ls2 hl2 => k H locs ls2 hP hD hS hl2)
theorem V_dload_n (F : Fx p s m args meth c cc nL own nme Ts ret D cy A) {k0 : Fin 4} {i : Nat} {x : UInt64} (d : decode cc pc = .ok (.dload_n k0, 1)) (hi : (k0 : Nat) = i) (j : Nat) (hj : L[j]? = some (i, .double x)) (k : V p l e R s m args below meth c nL D A cells slots Q w L (.double x :: rest) (pc + 1)) : V p l e R s m args below meth c nL D A cells slots Q w L rest pc := fun H locs ls hP hD hS hl => lv_dload_n F.exec F.code d hi (lv_at hl j hj) (k H locs ls hP hD hS hl)
theorem V_dload (F : Fx p s m args meth c cc nL own nme Ts ret D cy A) {i : Nat} {x : UInt64} (d : decode cc pc = .ok (.dload i, 2)) (j : Nat) (hj : L[j]? = some (i, .double x)) (k : V p l e R s m args below meth c nL D A cells slots Q w L (.double x :: rest) (pc + 2)) : V p l e R s m args below meth c nL D A cells slots Q w L rest pc := fun H locs ls hP hD hS hl => lv_dload F.exec F.code d (lv_at hl j hj) (k H locs ls hP hD hS hl)
theorem V_dstore_n (F : Fx p s m args meth c cc nL own nme Ts ret D cy A) {k0 : Fin 4} {i : Nat} {x : UInt64} {L2 : List (Nat × Value)} (d : decode cc pc = .ok (.dstore_n k0, 1)) (hi : (k0 : Nat) = i) (hn : i + 1 < nL) (hL : (i, Value.double x) :: L.filter (fun q => !(q.1 == i) && (!(q.1 == i + 1) && !(q.1 + 1 == i && q.2.category == 2))) = L2) (k : V p l e R s m args below meth c nL D A cells slots Q w L2 rest (pc + 1)) : V p l e R s m args below meth c nL D A cells slots Q w L (.double x :: rest) pc := fun H locs ls hP hD hS hl => lv_dstore_n F.exec F.code d hi hl hn hL (fun ls2 hl2 => k H locs ls2 hP hD hS hl2)
theorem V_dstore (F : Fx p s m args meth c cc nL own nme Ts ret D cy A) {i : Nat} {x : UInt64} {L2 : List (Nat × Value)} (d : decode cc pc = .ok (.dstore i, 2)) (hn : i + 1 < nL) (hL : (i, Value.double x) :: L.filter (fun q => !(q.1 == i) && (!(q.1 == i + 1) && !(q.1 + 1 == i && q.2.category == 2))) = L2) (k : V p l e R s m args below meth c nL D A cells slots Q w L2 rest (pc + 2)) : V p l e R s m args below meth c nL D A cells slots Q w L (.double x :: rest) pc := fun H locs ls hP hD hS hl => lv_dstore F.exec F.code d hl hn hL (fun ls2 hl2 => k H locs ls2 hP hD hS hl2)
theorem V_iinc (F : Fx p s m args meth c cc nL own nme Ts ret D cy A) {i : Nat} {n : Int} {x v : Int32} {L2 : List (Nat × Value)} (d : decode cc pc = .ok (.iinc i n, 3)) (j : Nat) (hj : L[j]? = some (i, .int x)) (hv : x + Int32.ofInt n = v) (hn : i < nL) (hL : (i, Value.int v) :: L.filter (fun q => !(q.1 == i) && !(q.1 + 1 == i && q.2.category == 2)) = L2) (k : V p l e R s m args below meth c nL D A cells slots Q w L2 rest (pc + 3)) : V p l e R s m args below meth c nL D A cells slots Q w L rest pc := fun H locs ls hP hD hS hl => lv_iinc F.exec F.code d hl hj hv hn hL (fun ls2 hl2 => k H locs ls2 hP hD hS hl2)
theorem V_iadd (F : Fx p s m args meth c cc nL own nme Ts ret D cy A) {x y : Int32} (d : decode cc pc = .ok (.iadd, 1)) (k : V p l e R s m args below meth c nL D A cells slots Q w L (.int (x + y) :: rest) (pc + 1)) : V p l e R s m args below meth c nL D A cells slots Q w L (.int y :: .int x :: rest) pc := fun H locs ls hP hD hS hl => lv_iadd F.exec F.code d (k H locs ls hP hD hS hl)
theorem V_isub (F : Fx p s m args meth c cc nL own nme Ts ret D cy A) {x y : Int32} (d : decode cc pc = .ok (.isub, 1)) (k : V p l e R s m args below meth c nL D A cells slots Q w L (.int (x - y) :: rest) (pc + 1)) : V p l e R s m args below meth c nL D A cells slots Q w L (.int y :: .int x :: rest) pc := fun H locs ls hP hD hS hl => lv_isub F.exec F.code d (k H locs ls hP hD hS hl)
theorem V_imul (F : Fx p s m args meth c cc nL own nme Ts ret D cy A) {x y : Int32} (d : decode cc pc = .ok (.imul, 1)) (k : V p l e R s m args below meth c nL D A cells slots Q w L (.int (x * y) :: rest) (pc + 1)) : V p l e R s m args below meth c nL D A cells slots Q w L (.int y :: .int x :: rest) pc := fun H locs ls hP hD hS hl => lv_imul F.exec F.code d (k H locs ls hP hD hS hl)
theorem V_iand (F : Fx p s m args meth c cc nL own nme Ts ret D cy A) {x y : Int32} (d : decode cc pc = .ok (.iand, 1)) (k : V p l e R s m args below meth c nL D A cells slots Q w L (.int (x &&& y) :: rest) (pc + 1)) : V p l e R s m args below meth c nL D A cells slots Q w L (.int y :: .int x :: rest) pc := fun H locs ls hP hD hS hl => lv_iand F.exec F.code d (k H locs ls hP hD hS hl)
theorem V_ior (F : Fx p s m args meth c cc nL own nme Ts ret D cy A) {x y : Int32} (d : decode cc pc = .ok (.ior, 1)) (k : V p l e R s m args below meth c nL D A cells slots Q w L (.int (x ||| y) :: rest) (pc + 1)) : V p l e R s m args below meth c nL D A cells slots Q w L (.int y :: .int x :: rest) pc := fun H locs ls hP hD hS hl => lv_ior F.exec F.code d (k H locs ls hP hD hS hl)
theorem V_ixor (F : Fx p s m args meth c cc nL own nme Ts ret D cy A) {x y : Int32} (d : decode cc pc = .ok (.ixor, 1)) (k : V p l e R s m args below meth c nL D A cells slots Q w L (.int (x ^^^ y) :: rest) (pc + 1)) : V p l e R s m args below meth c nL D A cells slots Q w L (.int y :: .int x :: rest) pc := fun H locs ls hP hD hS hl => lv_ixor F.exec F.code d (k H locs ls hP hD hS hl)
theorem V_ishl (F : Fx p s m args meth c cc nL own nme Ts ret D cy A) {x y : Int32} (d : decode cc pc = .ok (.ishl, 1)) (k : V p l e R s m args below meth c nL D A cells slots Q w L (.int (x <<< (y &&& 31)) :: rest) (pc + 1)) : V p l e R s m args below meth c nL D A cells slots Q w L (.int y :: .int x :: rest) pc := fun H locs ls hP hD hS hl => lv_ishl F.exec F.code d (k H locs ls hP hD hS hl)
theorem V_ishr (F : Fx p s m args meth c cc nL own nme Ts ret D cy A) {x y : Int32} (d : decode cc pc = .ok (.ishr, 1)) (k : V p l e R s m args below meth c nL D A cells slots Q w L (.int (x >>> (y &&& 31)) :: rest) (pc + 1)) : V p l e R s m args below meth c nL D A cells slots Q w L (.int y :: .int x :: rest) pc := fun H locs ls hP hD hS hl => lv_ishr F.exec F.code d (k H locs ls hP hD hS hl)
theorem V_irem (F : Fx p s m args meth c cc nL own nme Ts ret D cy A) {x y : Int32} (d : decode cc pc = .ok (.irem, 1)) (hne : ¬ y = 0) (k : V p l e R s m args below meth c nL D A cells slots Q w L (.int (x - x / y * y) :: rest) (pc + 1)) : V p l e R s m args below meth c nL D A cells slots Q w L (.int y :: .int x :: rest) pc := fun H locs ls hP hD hS hl => lv_irem F.exec F.code d hne (k H locs ls hP hD hS hl)
theorem V_iushr (F : Fx p s m args meth c cc nL own nme Ts ret D cy A) {x y : Int32} (d : decode cc pc = .ok (.iushr, 1)) (k : V p l e R s m args below meth c nL D A cells slots Q w L (.int ((x.toUInt32 >>> (y.toUInt32 &&& Int32.toUInt32 31)).toInt32) :: rest) (pc + 1)) : V p l e R s m args below meth c nL D A cells slots Q w L (.int y :: .int x :: rest) pc := fun H locs ls hP hD hS hl => lv_iushr F.exec F.code d rfl (k H locs ls hP hD hS hl)
theorem V_ladd (F : Fx p s m args meth c cc nL own nme Ts ret D cy A) {x y : Int64} (d : decode cc pc = .ok (.ladd, 1)) (k : V p l e R s m args below meth c nL D A cells slots Q w L (.long (x + y) :: rest) (pc + 1)) : V p l e R s m args below meth c nL D A cells slots Q w L (.long y :: .long x :: rest) pc := fun H locs ls hP hD hS hl => lv_ladd F.exec F.code d (k H locs ls hP hD hS hl)
theorem V_lsub (F : Fx p s m args meth c cc nL own nme Ts ret D cy A) {x y : Int64} (d : decode cc pc = .ok (.lsub, 1)) (k : V p l e R s m args below meth c nL D A cells slots Q w L (.long (x - y) :: rest) (pc + 1)) : V p l e R s m args below meth c nL D A cells slots Q w L (.long y :: .long x :: rest) pc := fun H locs ls hP hD hS hl => lv_lsub F.exec F.code d (k H locs ls hP hD hS hl)
theorem V_lmul (F : Fx p s m args meth c cc nL own nme Ts ret D cy A) {x y : Int64} (d : decode cc pc = .ok (.lmul, 1)) (k : V p l e R s m args below meth c nL D A cells slots Q w L (.long (x * y) :: rest) (pc + 1)) : V p l e R s m args below meth c nL D A cells slots Q w L (.long y :: .long x :: rest) pc := fun H locs ls hP hD hS hl => lv_lmul F.exec F.code d (k H locs ls hP hD hS hl)
theorem V_land (F : Fx p s m args meth c cc nL own nme Ts ret D cy A) {x y : Int64} (d : decode cc pc = .ok (.land, 1)) (k : V p l e R s m args below meth c nL D A cells slots Q w L (.long (x &&& y) :: rest) (pc + 1)) : V p l e R s m args below meth c nL D A cells slots Q w L (.long y :: .long x :: rest) pc := fun H locs ls hP hD hS hl => lv_land F.exec F.code d (k H locs ls hP hD hS hl)
theorem V_lor (F : Fx p s m args meth c cc nL own nme Ts ret D cy A) {x y : Int64} (d : decode cc pc = .ok (.lor, 1)) (k : V p l e R s m args below meth c nL D A cells slots Q w L (.long (x ||| y) :: rest) (pc + 1)) : V p l e R s m args below meth c nL D A cells slots Q w L (.long y :: .long x :: rest) pc := fun H locs ls hP hD hS hl => lv_lor F.exec F.code d (k H locs ls hP hD hS hl)
theorem V_lshl (F : Fx p s m args meth c cc nL own nme Ts ret D cy A) {x : Int64} {y : Int32} (d : decode cc pc = .ok (.lshl, 1)) (k : V p l e R s m args below meth c nL D A cells slots Q w L (.long (x <<< (y.toInt64 &&& 63)) :: rest) (pc + 1)) : V p l e R s m args below meth c nL D A cells slots Q w L (.int y :: .long x :: rest) pc := fun H locs ls hP hD hS hl => lv_lshl F.exec F.code d rfl (k H locs ls hP hD hS hl)
theorem V_lcmp (F : Fx p s m args meth c cc nL own nme Ts ret D cy A) {x y : Int64} (d : decode cc pc = .ok (.lcmp, 1)) (k : V p l e R s m args below meth c nL D A cells slots Q w L (.int (lg_cmp x y) :: rest) (pc + 1)) : V p l e R s m args below meth c nL D A cells slots Q w L (.long y :: .long x :: rest) pc := fun H locs ls hP hD hS hl => W.lcmp F.exec F.code d (k H locs ls hP hD hS hl)
theorem V_i2l (F : Fx p s m args meth c cc nL own nme Ts ret D cy A) {x : Int32} (d : decode cc pc = .ok (.i2l, 1)) (k : V p l e R s m args below meth c nL D A cells slots Q w L (.long x.toInt64 :: rest) (pc + 1)) : V p l e R s m args below meth c nL D A cells slots Q w L (.int x :: rest) pc := fun H locs ls hP hD hS hl => lv_i2l F.exec F.code d rfl (k H locs ls hP hD hS hl)
theorem V_i2d (F : Fx p s m args meth c cc nL own nme Ts ret D cy A) {x : Int32} (d : decode cc pc = .ok (.i2d, 1)) (k : V p l e R s m args below meth c nL D A cells slots Q w L (.double (FP.i2d x) :: rest) (pc + 1)) : V p l e R s m args below meth c nL D A cells slots Q w L (.int x :: rest) pc := fun H locs ls hP hD hS hl => lv_i2d F.exec F.code d (k H locs ls hP hD hS hl)
theorem V_d2l (F : Fx p s m args meth c cc nL own nme Ts ret D cy A) {x : UInt64} (d : decode cc pc = .ok (.d2l, 1)) (k : V p l e R s m args below meth c nL D A cells slots Q w L (.long (FP.d2l x) :: rest) (pc + 1)) : V p l e R s m args below meth c nL D A cells slots Q w L (.double x :: rest) pc := fun H locs ls hP hD hS hl => lv_d2l F.exec F.code d (k H locs ls hP hD hS hl)
theorem V_dcmp (F : Fx p s m args meth c cc nL own nme Ts ret D cy A) {x y : UInt64} {op : CmpOp} (d : decode cc pc = .ok (.dcmp op, 1)) (k : V p l e R s m args below meth c nL D A cells slots Q w L (.int (Op.cmpValue (FP.dcmp x y) op) :: rest) (pc + 1)) : V p l e R s m args below meth c nL D A cells slots Q w L (.double y :: .double x :: rest) pc := fun H locs ls hP hD hS hl => lv_dcmp F.exec F.code d (k H locs ls hP hD hS hl)
theorem V_dsub (F : Fx p s m args meth c cc nL own nme Ts ret D cy A) {x y : UInt64} (d : decode cc pc = .ok (.dsub, 1)) (hne : vf_n64 (FP.dsub x y)) (k : V p l e R s m args below meth c nL D A cells slots Q w L (.double (FP.dsub x y) :: rest) (pc + 1)) : V p l e R s m args below meth c nL D A cells slots Q w L (.double y :: .double x :: rest) pc := fun H locs ls hP hD hS hl => lv_dsub F.exec F.code d hne (k H locs ls hP hD hS hl)
theorem V_dmul (F : Fx p s m args meth c cc nL own nme Ts ret D cy A) {x y : UInt64} (d : decode cc pc = .ok (.dmul, 1)) (hne : vf_n64 (FP.dmul x y)) (k : V p l e R s m args below meth c nL D A cells slots Q w L (.double (FP.dmul x y) :: rest) (pc + 1)) : V p l e R s m args below meth c nL D A cells slots Q w L (.double y :: .double x :: rest) pc := fun H locs ls hP hD hS hl => lv_dmul F.exec F.code d hne (k H locs ls hP hD hS hl)
theorem V_ddiv (F : Fx p s m args meth c cc nL own nme Ts ret D cy A) {x y : UInt64} (d : decode cc pc = .ok (.ddiv, 1)) (hne : vf_n64 (FP.ddiv x y)) (k : V p l e R s m args below meth c nL D A cells slots Q w L (.double (FP.ddiv x y) :: rest) (pc + 1)) : V p l e R s m args below meth c nL D A cells slots Q w L (.double y :: .double x :: rest) pc := fun H locs ls hP hD hS hl => lv_ddiv F.exec F.code d hne (k H locs ls hP hD hS hl)
theorem V_dup (F : Fx p s m args meth c cc nL own nme Ts ret D cy A) {va : Value} (d : decode cc pc = .ok (.dup, 1)) (hva : va.category = 1) (k : V p l e R s m args below meth c nL D A cells slots Q w L (va :: va :: rest) (pc + 1)) : V p l e R s m args below meth c nL D A cells slots Q w L (va :: rest) pc := fun H locs ls hP hD hS hl => lv_dup F.exec F.code d hva (k H locs ls hP hD hS hl)
theorem V_pop (F : Fx p s m args meth c cc nL own nme Ts ret D cy A) {va : Value} (d : decode cc pc = .ok (.pop, 1)) (hva : va.category = 1) (k : V p l e R s m args below meth c nL D A cells slots Q w L rest (pc + 1)) : V p l e R s m args below meth c nL D A cells slots Q w L (va :: rest) pc := fun H locs ls hP hD hS hl => lv_pop F.exec F.code d hva (k H locs ls hP hD hS hl)
theorem V_dup2_11 (F : Fx p s m args meth c cc nL own nme Ts ret D cy A) {va vb : Value} (d : decode cc pc = .ok (.dup2, 1)) (hva : va.category = 1) (hvb : vb.category = 1) (k : V p l e R s m args below meth c nL D A cells slots Q w L (va :: vb :: va :: vb :: rest) (pc + 1)) : V p l e R s m args below meth c nL D A cells slots Q w L (va :: vb :: rest) pc := fun H locs ls hP hD hS hl => lv_dup2_11 F.exec F.code d hva hvb (k H locs ls hP hD hS hl)
theorem V_ldc2 (F : Fx p s m args meth c cc nL own nme Ts ret D cy A) {index : Nat} {v : Int64} (d : decode cc pc = .ok (.ldc2_w index, 3)) (hm : Jvm.Cond.constantLong own index v ∈ Ts) (k : V p l e R s m args below meth c nL D A cells slots Q w L (.long v :: rest) (pc + 3)) : V p l e R s m args below meth c nL D A cells slots Q w L rest pc := fun H locs ls hP hD hS hl => lv_ldc2 F.exec F.code F.fown (F.ts _ hm) d (k H locs ls hP hD hS hl)
theorem V_ldc2d (F : Fx p s m args meth c cc nL own nme Ts ret D cy A) {index : Nat} {v : UInt64} (d : decode cc pc = .ok (.ldc2_w index, 3)) (hm : Jvm.Cond.constantDouble own index v ∈ Ts) (k : V p l e R s m args below meth c nL D A cells slots Q w L (.double v :: rest) (pc + 3)) : V p l e R s m args below meth c nL D A cells slots Q w L rest pc := fun H locs ls hP hD hS hl => lv_ldc2d F.exec F.code F.fown (F.ts _ hm) d (k H locs ls hP hD hS hl)
theorem V_ldc (F : Fx p s m args meth c cc nL own nme Ts ret D cy A) {index : Nat} {v : Int32} (d : decode cc pc = .ok (.ldc index, 2)) (hm : Jvm.Cond.constant own index v ∈ Ts) (k : V p l e R s m args below meth c nL D A cells slots Q w L (.int v :: rest) (pc + 2)) : V p l e R s m args below meth c nL D A cells slots Q w L rest pc := fun H locs ls hP hD hS hl => lv_ldc F.exec F.code F.fown (F.ts _ hm) d (k H locs ls hP hD hS hl)
theorem V_ldcw (F : Fx p s m args meth c cc nL own nme Ts ret D cy A) {index : Nat} {v : Int32} (d : decode cc pc = .ok (.ldc_w index, 3)) (hm : Jvm.Cond.constant own index v ∈ Ts) (k : V p l e R s m args below meth c nL D A cells slots Q w L (.int v :: rest) (pc + 3)) : V p l e R s m args below meth c nL D A cells slots Q w L rest pc := fun H locs ls hP hD hS hl => lv_ldcw F.exec F.code F.fown (F.ts _ hm) d (k H locs ls hP hD hS hl)
theorem V_null (F : Fx p s m args meth c cc nL own nme Ts ret D cy A)  (d : decode cc pc = .ok (.aconst_null, 1)) (k : V p l e R s m args below meth c nL D A cells slots Q w L (.null :: rest) (pc + 1)) : V p l e R s m args below meth c nL D A cells slots Q w L rest pc := fun H locs ls hP hD hS hl => lv_null F.exec F.code d (k H locs ls hP hD hS hl)
theorem V_if_eq (F : Fx p s m args meth c cc nL own nme Ts ret D cy A) {x : Int32} {off : Int} {tgt : Nat} (d : decode cc pc = .ok (.ifCond .eq off, 3)) (ht : (pc : Int) + off = (tgt : Int)) (kt : x = 0 → V p l e R s m args below meth c nL D A cells slots Q w L rest tgt) (kf : ¬ x = 0 → V p l e R s m args below meth c nL D A cells slots Q w L rest (pc + 3)) : V p l e R s m args below meth c nL D A cells slots Q w L (.int x :: rest) pc := fun H locs ls hP hD hS hl => lv_if_eq F.exec F.code d ht (fun h => kt h H locs ls hP hD hS hl) (fun h => kf h H locs ls hP hD hS hl)
theorem V_icmp_eq (F : Fx p s m args meth c cc nL own nme Ts ret D cy A) {x y : Int32} {off : Int} {tgt : Nat} (d : decode cc pc = .ok (.if_icmp .eq off, 3)) (ht : (pc : Int) + off = (tgt : Int)) (kt : x = y → V p l e R s m args below meth c nL D A cells slots Q w L rest tgt) (kf : ¬ x = y → V p l e R s m args below meth c nL D A cells slots Q w L rest (pc + 3)) : V p l e R s m args below meth c nL D A cells slots Q w L (.int y :: .int x :: rest) pc := fun H locs ls hP hD hS hl => lv_icmp_eq F.exec F.code d ht (fun h => kt h H locs ls hP hD hS hl) (fun h => kf h H locs ls hP hD hS hl)
theorem V_if_ne (F : Fx p s m args meth c cc nL own nme Ts ret D cy A) {x : Int32} {off : Int} {tgt : Nat} (d : decode cc pc = .ok (.ifCond .ne off, 3)) (ht : (pc : Int) + off = (tgt : Int)) (kt : ¬ x = 0 → V p l e R s m args below meth c nL D A cells slots Q w L rest tgt) (kf : x = 0 → V p l e R s m args below meth c nL D A cells slots Q w L rest (pc + 3)) : V p l e R s m args below meth c nL D A cells slots Q w L (.int x :: rest) pc := fun H locs ls hP hD hS hl => lv_if_ne F.exec F.code d ht (fun h => kt h H locs ls hP hD hS hl) (fun h => kf h H locs ls hP hD hS hl)
theorem V_icmp_ne (F : Fx p s m args meth c cc nL own nme Ts ret D cy A) {x y : Int32} {off : Int} {tgt : Nat} (d : decode cc pc = .ok (.if_icmp .ne off, 3)) (ht : (pc : Int) + off = (tgt : Int)) (kt : ¬ x = y → V p l e R s m args below meth c nL D A cells slots Q w L rest tgt) (kf : x = y → V p l e R s m args below meth c nL D A cells slots Q w L rest (pc + 3)) : V p l e R s m args below meth c nL D A cells slots Q w L (.int y :: .int x :: rest) pc := fun H locs ls hP hD hS hl => lv_icmp_ne F.exec F.code d ht (fun h => kt h H locs ls hP hD hS hl) (fun h => kf h H locs ls hP hD hS hl)
theorem V_if_lt (F : Fx p s m args meth c cc nL own nme Ts ret D cy A) {x : Int32} {off : Int} {tgt : Nat} (d : decode cc pc = .ok (.ifCond .lt off, 3)) (ht : (pc : Int) + off = (tgt : Int)) (kt : x < 0 → V p l e R s m args below meth c nL D A cells slots Q w L rest tgt) (kf : ¬ x < 0 → V p l e R s m args below meth c nL D A cells slots Q w L rest (pc + 3)) : V p l e R s m args below meth c nL D A cells slots Q w L (.int x :: rest) pc := fun H locs ls hP hD hS hl => lv_if_lt F.exec F.code d ht (fun h => kt h H locs ls hP hD hS hl) (fun h => kf h H locs ls hP hD hS hl)
theorem V_icmp_lt (F : Fx p s m args meth c cc nL own nme Ts ret D cy A) {x y : Int32} {off : Int} {tgt : Nat} (d : decode cc pc = .ok (.if_icmp .lt off, 3)) (ht : (pc : Int) + off = (tgt : Int)) (kt : x < y → V p l e R s m args below meth c nL D A cells slots Q w L rest tgt) (kf : ¬ x < y → V p l e R s m args below meth c nL D A cells slots Q w L rest (pc + 3)) : V p l e R s m args below meth c nL D A cells slots Q w L (.int y :: .int x :: rest) pc := fun H locs ls hP hD hS hl => lv_icmp_lt F.exec F.code d ht (fun h => kt h H locs ls hP hD hS hl) (fun h => kf h H locs ls hP hD hS hl)
theorem V_if_ge (F : Fx p s m args meth c cc nL own nme Ts ret D cy A) {x : Int32} {off : Int} {tgt : Nat} (d : decode cc pc = .ok (.ifCond .ge off, 3)) (ht : (pc : Int) + off = (tgt : Int)) (kt : 0 ≤ x → V p l e R s m args below meth c nL D A cells slots Q w L rest tgt) (kf : ¬ 0 ≤ x → V p l e R s m args below meth c nL D A cells slots Q w L rest (pc + 3)) : V p l e R s m args below meth c nL D A cells slots Q w L (.int x :: rest) pc := fun H locs ls hP hD hS hl => lv_if_ge F.exec F.code d ht (fun h => kt h H locs ls hP hD hS hl) (fun h => kf h H locs ls hP hD hS hl)
theorem V_icmp_ge (F : Fx p s m args meth c cc nL own nme Ts ret D cy A) {x y : Int32} {off : Int} {tgt : Nat} (d : decode cc pc = .ok (.if_icmp .ge off, 3)) (ht : (pc : Int) + off = (tgt : Int)) (kt : y ≤ x → V p l e R s m args below meth c nL D A cells slots Q w L rest tgt) (kf : ¬ y ≤ x → V p l e R s m args below meth c nL D A cells slots Q w L rest (pc + 3)) : V p l e R s m args below meth c nL D A cells slots Q w L (.int y :: .int x :: rest) pc := fun H locs ls hP hD hS hl => lv_icmp_ge F.exec F.code d ht (fun h => kt h H locs ls hP hD hS hl) (fun h => kf h H locs ls hP hD hS hl)
theorem V_if_gt (F : Fx p s m args meth c cc nL own nme Ts ret D cy A) {x : Int32} {off : Int} {tgt : Nat} (d : decode cc pc = .ok (.ifCond .gt off, 3)) (ht : (pc : Int) + off = (tgt : Int)) (kt : 0 < x → V p l e R s m args below meth c nL D A cells slots Q w L rest tgt) (kf : ¬ 0 < x → V p l e R s m args below meth c nL D A cells slots Q w L rest (pc + 3)) : V p l e R s m args below meth c nL D A cells slots Q w L (.int x :: rest) pc := fun H locs ls hP hD hS hl => lv_if_gt F.exec F.code d ht (fun h => kt h H locs ls hP hD hS hl) (fun h => kf h H locs ls hP hD hS hl)
theorem V_icmp_gt (F : Fx p s m args meth c cc nL own nme Ts ret D cy A) {x y : Int32} {off : Int} {tgt : Nat} (d : decode cc pc = .ok (.if_icmp .gt off, 3)) (ht : (pc : Int) + off = (tgt : Int)) (kt : y < x → V p l e R s m args below meth c nL D A cells slots Q w L rest tgt) (kf : ¬ y < x → V p l e R s m args below meth c nL D A cells slots Q w L rest (pc + 3)) : V p l e R s m args below meth c nL D A cells slots Q w L (.int y :: .int x :: rest) pc := fun H locs ls hP hD hS hl => lv_icmp_gt F.exec F.code d ht (fun h => kt h H locs ls hP hD hS hl) (fun h => kf h H locs ls hP hD hS hl)
theorem V_if_le (F : Fx p s m args meth c cc nL own nme Ts ret D cy A) {x : Int32} {off : Int} {tgt : Nat} (d : decode cc pc = .ok (.ifCond .le off, 3)) (ht : (pc : Int) + off = (tgt : Int)) (kt : x ≤ 0 → V p l e R s m args below meth c nL D A cells slots Q w L rest tgt) (kf : ¬ x ≤ 0 → V p l e R s m args below meth c nL D A cells slots Q w L rest (pc + 3)) : V p l e R s m args below meth c nL D A cells slots Q w L (.int x :: rest) pc := fun H locs ls hP hD hS hl => lv_if_le F.exec F.code d ht (fun h => kt h H locs ls hP hD hS hl) (fun h => kf h H locs ls hP hD hS hl)
theorem V_icmp_le (F : Fx p s m args meth c cc nL own nme Ts ret D cy A) {x y : Int32} {off : Int} {tgt : Nat} (d : decode cc pc = .ok (.if_icmp .le off, 3)) (ht : (pc : Int) + off = (tgt : Int)) (kt : x ≤ y → V p l e R s m args below meth c nL D A cells slots Q w L rest tgt) (kf : ¬ x ≤ y → V p l e R s m args below meth c nL D A cells slots Q w L rest (pc + 3)) : V p l e R s m args below meth c nL D A cells slots Q w L (.int y :: .int x :: rest) pc := fun H locs ls hP hD hS hl => lv_icmp_le F.exec F.code d ht (fun h => kt h H locs ls hP hD hS hl) (fun h => kf h H locs ls hP hD hS hl)
theorem V_goto (F : Fx p s m args meth c cc nL own nme Ts ret D cy A) {off : Int} {tgt : Nat} (d : decode cc pc = .ok (.goto off, 3)) (ht : (pc : Int) + off = (tgt : Int)) (k : V p l e R s m args below meth c nL D A cells slots Q w L rest tgt) : V p l e R s m args below meth c nL D A cells slots Q w L rest pc := fun H locs ls hP hD hS hl => lv_goto F.exec F.code d ht (k H locs ls hP hD hS hl)
theorem V_tableIn (F : Fx p s m args meth c cc nL own nme Ts ret D cy A) {dflt lo hi : Int} {offs : Array Int} {len : Nat} {x : Int32} {off : Int} {tgt : Nat} (d : decode cc pc = .ok (.tableswitch dflt lo hi offs, len)) (h1 : ¬ x.toInt < lo) (h2 : ¬ hi < x.toInt) (ho : offs[(x.toInt - lo).toNat]? = some off) (ht : (pc : Int) + off = (tgt : Int)) (k : V p l e R s m args below meth c nL D A cells slots Q w L rest tgt) : V p l e R s m args below meth c nL D A cells slots Q w L (.int x :: rest) pc := fun H locs ls hP hD hS hl => lv_tableIn F.exec F.code d h1 h2 ho ht (k H locs ls hP hD hS hl)
theorem V_tableOut (F : Fx p s m args meth c cc nL own nme Ts ret D cy A) {dflt lo hi : Int} {offs : Array Int} {len : Nat} {x : Int32} {tgt : Nat} (d : decode cc pc = .ok (.tableswitch dflt lo hi offs, len)) (h : x.toInt < lo ∨ hi < x.toInt) (ht : (pc : Int) + dflt = (tgt : Int)) (k : V p l e R s m args below meth c nL D A cells slots Q w L rest tgt) : V p l e R s m args below meth c nL D A cells slots Q w L (.int x :: rest) pc := fun H locs ls hP hD hS hl => lv_tableOut F.exec F.code d h ht (k H locs ls hP hD hS hl)
theorem V_get (F : Fx p s m args meth c cc nL own nme Ts ret D cy A) {C ref : String} {T : u_T} {N index : Nat} {a : Nat} {fs : List Value} {v : Value} (q0 ci k : Nat) (hin : ∀ w ∈ u_ws C T N, w ∈ Ts) (hc : vwCl[ci]? = some (C, T, N)) (hk : k < N) (hs : ref = (T k).1) (hlink : Cond.fieldLink own index ref (T k).2.1 (T k).2.2.1 ∈ Ts) (d : decode cc pc = .ok (.getfield index, 3)) (he : w[q0]? = some (a, .inr (ci, fs))) (hv : fs[k]? = some v) (kk : V p l e R s m args below meth c nL D A cells slots Q w L (v :: rest) (pc + 3)) : V p l e R s m args below meth c nL D A cells slots Q w L (.ref a :: rest) pc := fun H locs ls hP hD hS hl => by
  subst hs
  exact va_get F.exec F.code F.ts hin F.fown F.K hP q0 he hc k hk (F.ts _ hlink) (fun _ h9 => h9) hv d (kk H locs ls hP hD hS hl)
theorem V_put (F : Fx p s m args meth c cc nL own nme Ts ret D cy A) {C ref : String} {T : u_T} {N index : Nat} {a : Nat} {fs : List Value} {v : Value} {w2 : va_W} (q0 ci k : Nat) (hin : ∀ w ∈ u_ws C T N, w ∈ Ts) (ty0 : Nat → FieldType) (hty : ∀ k, k < N → parseFieldDescriptor (T k).2.2.1 = some (ty0 k)) (hnm : ∀ a, a < N → ∀ b, b < N → a ≠ b → (T a).2.1 ≠ (T b).2.1) (hc : vwCl[ci]? = some (C, T, N)) (hk : k < N) (hs : ref = (T k).1) (hlink : Cond.fieldLink own index ref (T k).2.1 (T k).2.2.1 ∈ Ts) (hfin : (T k).2.2.2 = false) (d : decode cc pc = .ok (.putfield index, 3)) (he : w[q0]? = some (a, .inr (ci, fs))) (hn : narrow (ty0 k) v = v) (hfit : fits (ty0 k) v = true) (hl : k < fs.length) (hw : w.set q0 (a, .inr (ci, fs.set k v)) = w2) (kk : V p l e R s m args below meth c nL D A cells slots Q w2 L rest (pc + 3)) : V p l e R s m args below meth c nL D A cells slots Q w L (v :: .ref a :: rest) pc := fun H locs ls hP hD hS hls => by
  subst hs
  subst hw
  exact va_put F.exec F.code F.ts hin ty0 hty hnm F.fown F.K hP hD hS q0 he hc k hk (F.ts _ hlink) (fun _ h9 => h9) hfin (hty k hk) hn hfit hl d (fun H1 locs1 h1 h2 h3 => kk H1 locs1 ls h1 h2 h3 hls)
theorem V_iald (F : Fx p s m args meth c cc nL own nme Ts ret D cy A) {a : Nat} {n : Nat} {f : Nat → Int32} {i : Int32} (q0 : Nat) (ha : w[q0]? = some (a, .inl (cy 0, n, .inl f))) (hin : vp_in i n) (d : decode cc pc = .ok (.iaload, 1)) (k : V p l e R s m args below meth c nL D A cells slots Q w L (.int (f i.toNatClampNeg) :: rest) (pc + 1)) : V p l e R s m args below meth c nL D A cells slots Q w L (.int i :: .ref a :: rest) pc := fun H locs ls hP hD hS hl => va_iald F.exec F.code F.K hP q0 0 ha rfl hin d (k H locs ls hP hD hS hl)
theorem V_iast (F : Fx p s m args meth c cc nL own nme Ts ret D cy A) {a : Nat} {n : Nat} {f f2 : Nat → Int32} {i x : Int32} {w2 : va_W} (q0 : Nat) (ha : w[q0]? = some (a, .inl (cy 0, n, .inl f))) (hin : vp_in i n) (he : upd f i.toNatClampNeg x = f2) (d : decode cc pc = .ok (.iastore, 1)) (hw : w.set q0 (a, .inl (cy 0, n, .inl f2)) = w2) (k : V p l e R s m args below meth c nL D A cells slots Q w2 L rest (pc + 1)) : V p l e R s m args below meth c nL D A cells slots Q w L (.int x :: .int i :: .ref a :: rest) pc := fun H locs ls hP hD hS hl => by
  subst he
  subst hw
  exact va_iast F.exec F.code F.K hP hD hS q0 0 ha rfl hin d (fun H1 locs1 h1 h2 h3 => k H1 locs1 ls h1 h2 h3 hl)
theorem V_alen (F : Fx p s m args meth c cc nL own nme Ts ret D cy A) {a : Nat} {n : Nat} {f : Nat → Int32} {v : Int32} (q0 : Nat) (ha : w[q0]? = some (a, .inl (cy 0, n, .inl f))) (hv : Int32.ofNat n = v) (d : decode cc pc = .ok (.arraylength, 1)) (k : V p l e R s m args below meth c nL D A cells slots Q w L (.int v :: rest) (pc + 1)) : V p l e R s m args below meth c nL D A cells slots Q w L (.ref a :: rest) pc := fun H locs ls hP hD hS hl => va_alen F.exec F.code F.K hP q0 0 ha (ty := .int) rfl hv d (k H locs ls hP hD hS hl)
/-- a call, out of its run -/
theorem V_run {wc wc' : va_W} {out : Option Value} {is : List Nat} {H : Heap} {locs : List Loc} {ls : Array Slot} {st0 : List Value} {a : Array Value} (hnew : ∀ q : Nat, s.heap.size ≤ q → A q)
    (hrun : va_Run p l e R s m args below meth c H locs cells slots 0 0 (F0 m pc ls st0) rest (ok_Q D wc' out (va_A wc H.size) a) (va_A wc H.size)) (hP : va_P D vwCl w H) (hD : va_D A w) (hS : va_S A s.heap H locs) (hl : lv_has ls nL L)
    (hC : is.map (fun i => w[i]?) = wc.map some) (hn : va_nd is = true) (hf : wc'.map (·.1) = wc.map (·.1)) (k : V p l e R s m args below meth c nL D A cells slots Q (reps w is wc') L (out.toList ++ rest) (pc + 3)) : W p l e R s m args below meth c H locs cells slots Q (F0 m pc ls st0) := by
  intro T hT X
  obtain ⟨v, st₀, t, T', L', h0, X', hL, e1, e2, ⟨⟨hv, hp⟩, hz, hk⟩, st⟩ := hrun T hT X
  cases hv
  rw [h0] at hz hk
  have hF := va_free hD hS hnew is hC
  obtain ⟨p1, p2⟩ := va_reps (H1 := T'.heap) hP hD hC hn (fun q h1 h2 => by rw [e1]; exact hk q h1 h2) hf (by rw [e1]; exact hp)
  obtain ⟨t2, a1, b1⟩ := k T'.heap (locs ++ L') ls p1 p2 ⟨Nat.le_trans hS.1 (by rw [e1]; exact hz), fun q h1 h2 => by
      rw [e1, hk q (Nat.lt_of_lt_of_le h1 hS.1) (fun z => h2 (hF q z))]
      exact hS.2.1 q h1 h2, fun q hq => by
      rcases List.mem_append.mp hq with h | h
      · exact hS.2.2 q h
      · exact hF _ (hL q h)⟩ hl T' rfl X'
  exact ⟨t2, st t2 a1, b1⟩
theorem ok_pre {as : List Value} {wc : va_W} {is : List Nat} {H : Heap} (hN : nestG s) (hK : va_K D vwCl (tyl cy) s) (hP : va_P D vwCl w H) (hD : va_D A w) (hC : is.map (fun i => w[i]?) = wc.map some) (hn : va_nd is = true) : ∀ U : State, U.heap = H → s.WarmedH U.vm → ok_Pre D cy as wc H.size as.toArray U :=
  fun U hU hW => ⟨rfl, by rw [hU], by rw [hU]; exact hP.cut hC, va_K.moved hW.alike hK, (hD.sub is hn hC).weaken (fun _ _ _ _ => trivial), hN.warm hW⟩
theorem V_V (F : Fx p s m args meth c cc nL own nme Ts ret D cy A) {C : String} {y : MethodName} {wy : List Cond} {rm : Room} {index n maxL : Nat} {bytes : ByteArray} {ry : Option FieldType} {b : Nat} {As : List Value} {wc wc' w2 : va_W} {out : Option Value} {st st2 : List Value} {T : u_T} {N : Nat} {fs : List Value} {is : List Nat} {put : va_W → va_W} (ci : Nat)
    (hM : okM l y wy rm D cy (.ref b :: As) wc wc' out) (cw : CallW R s args own C index y bytes maxL ry wy rm 0 0 n) (hn : As.length = n) (d : decode cc pc = .ok (.invokevirtual index, 3)) (hfit : Fit w is wc put) (hf : wc'.map (·.1) = wc.map (·.1)) (hc : vwCl[ci]? = some (C, T, N)) (hq : wc[0]? = some (b, .inr (ci, fs))) (hcat : (rest.map fun v => v.category).sum ≤ 8) (hcl : cells ≤ R.cells) (hsl : slots ≤ R.slots) (hst : st = As.reverse ++ .ref b :: rest) (hst2 : out.toList ++ rest = st2) (hw : put wc' = w2) (k : V p l e R s m args below meth c nL D A cells slots Q w2 L st2 (pc + 3)) : V p l e R s m args below meth c nL D A cells slots Q w L st pc := fun H locs ls hP hD hS hl => by
  subst hst2
  subst hw
  rw [← hfit.2.2 wc' hf] at k
  exact V_run F.new (va_runV F.fix (hM H.size) cw ⟨ok_blind _ _ _ _ _, va_recv F.K (hP.cut hfit.1) hc hq, ok_pre F.nest F.K hP hD hfit.1 hfit.2.1⟩ rfl hn hl.1 hst (lv_room hcat) d ⟨hcl, hsl⟩) hP hD hS hl hfit.1 hfit.2.1 hf k
theorem V_V2 (F : Fx p s m args meth c cc nL own nme Ts ret D cy A) {C : String} {y : MethodName} {wy : List Cond} {rm : Room} {index n maxL : Nat} {bytes : ByteArray} {ry : Option FieldType} {b : Nat} {As : List Value} {c1 c2 d1 d2 w2 : va_W} {out : Option Value} {st st2 : List Value} {T : u_T} {N : Nat} {fs : List Value} {is : List Nat} {put : va_W → va_W → va_W} (ci : Nat)
    (hM : okM l y wy rm D cy (.ref b :: As) (c1 ++ c2) (d1 ++ d2) out) (cw : CallW R s args own C index y bytes maxL ry wy rm 0 0 n) (hn : As.length = n) (d : decode cc pc = .ok (.invokevirtual index, 3)) (hfit : Fit2 w is c1 c2 put) (hf1 : d1.map (·.1) = c1.map (·.1)) (hf2 : d2.map (·.1) = c2.map (·.1)) (hc : vwCl[ci]? = some (C, T, N)) (hq : (c1 ++ c2)[0]? = some (b, .inr (ci, fs))) (hcat : (rest.map fun v => v.category).sum ≤ 8) (hcl : cells ≤ R.cells) (hsl : slots ≤ R.slots) (hst : st = As.reverse ++ .ref b :: rest) (hst2 : out.toList ++ rest = st2) (hw : put d1 d2 = w2) (k : V p l e R s m args below meth c nL D A cells slots Q w2 L st2 (pc + 3)) : V p l e R s m args below meth c nL D A cells slots Q w L st pc := fun H locs ls hP hD hS hl => by
  subst hst2
  subst hw
  rw [← hfit.2.2 d1 d2 hf1 hf2] at k
  exact V_run F.new (va_runV F.fix (hM H.size) cw ⟨ok_blind _ _ _ _ _, va_recv F.K (hP.cut hfit.1) hc hq, ok_pre F.nest F.K hP hD hfit.1 hfit.2.1⟩ rfl hn hl.1 hst (lv_room hcat) d ⟨hcl, hsl⟩) hP hD hS hl hfit.1 hfit.2.1 (fst_app hf1 hf2) k
theorem V_Sc (F : Fx p s m args meth c cc nL own nme Ts ret D cy A) {y : MethodName} {wy : List Cond} {rm : Room} {index n maxL : Nat} {bytes : ByteArray} {ry : Option FieldType} {As : List Value} {out : Option Value} {st st2 : List Value}
    (hM : okM l y wy rm D cy As [] [] out) (cw : CallB R s args own index y bytes maxL ry wy rm 0 0 n ∧ (Cond.static y).before args s = true) (hn : As.length = n) (d : decode cc pc = .ok (.invokestatic index, 3)) (hcat : (rest.map fun v => v.category).sum ≤ 8) (hcl : cells ≤ R.cells) (hsl : slots ≤ R.slots) (hst : st = As.reverse ++ rest) (hst2 : out.toList ++ rest = st2) (k : V p l e R s m args below meth c nL D A cells slots Q w L st2 (pc + 3)) : V p l e R s m args below meth c nL D A cells slots Q w L st pc := fun H locs ls hP hD hS hl => by
  subst hst2
  exact V_run (is := []) F.new (va_runS F.fix (hM H.size) cw ⟨ok_blind _ _ _ _ _, ok_pre (is := []) F.nest F.K hP hD rfl rfl⟩ rfl hn hl.1 hst (lv_room hcat) d ⟨hcl, hsl⟩) hP hD hS hl rfl rfl rfl k
theorem V_SN (F : Fx p s m args meth c cc nL own nme Ts ret D cy A) {y : MethodName} {host : String} {wy : List Cond} {rm : Room} {index n maxL : Nat} {bytes : ByteArray} {ry : Option FieldType} {As : List Value} {out : Option Value} {st st2 : List Value}
    (hM : okM l y wy rm D cy As [] [] out) (cw : va_CN R s args own index y host bytes maxL ry wy rm 0 0 n ∧ (Cond.static y).before args s = true ∧ True) (hn : As.length = n) (d : decode cc pc = .ok (.invokestatic index, 3)) (hcat : (rest.map fun v => v.category).sum ≤ 8) (hcl : cells ≤ R.cells) (hsl : slots ≤ R.slots) (hst : st = As.reverse ++ rest) (hst2 : out.toList ++ rest = st2) (k : V p l e R s m args below meth c nL D A cells slots Q w L st2 (pc + 3)) : V p l e R s m args below meth c nL D A cells slots Q w L st pc := fun H locs ls hP hD hS hl => by
  subst hst2
  exact V_run (is := []) F.new (va_runSN F.fix (hM H.size) cw ⟨ok_blind _ _ _ _ _, ok_pre (is := []) F.nest F.K hP hD rfl rfl⟩ rfl hn hl.1 hst (lv_room hcat) d ⟨hcl, hsl⟩) hP hD hS hl rfl rfl rfl k
theorem V_ret (F : Fx p s m args meth c cc nL own nme Ts ret D cy A) {v : Int32} {ty : FieldType} {w2 : va_W} {vo : Int32} (hr : ret = some ty) (hn : narrow ty (.int v) = .int v) (d : decode cc pc = .ok (.ireturn, 1)) (hw : w = w2) (hv : v = vo) : V p l e R s m args below meth c nL D A cells slots (MQ below (ok_Q D w2 (some (.int vo)) A) args s cells slots A) w L [.int v] pc := fun H locs ls hP hD hS hl => by
  subst hw
  subst hv
  exact W.zret F.exec F.code (F.fret.trans hr) hn (fun t ht hW => ⟨⟨rfl, by rw [ht]; exact hP⟩, hS.F ht⟩) hS.2.2 d F.locks
theorem V_lret (F : Fx p s m args meth c cc nL own nme Ts ret D cy A) {v vo : Int64} {w2 : va_W} (hr : ret = some .long) (d : decode cc pc = .ok (.lreturn, 1)) (hw : w = w2) (hv : v = vo) : V p l e R s m args below meth c nL D A cells slots (MQ below (ok_Q D w2 (some (.long vo)) A) args s cells slots A) w L [.long v] pc := fun H locs ls hP hD hS hl => by
  subst hw
  subst hv
  exact W.lret F.exec F.code (F.fret.trans hr) (fun t ht hW => ⟨⟨rfl, by rw [ht]; exact hP⟩, hS.F ht⟩) hS.2.2 d F.locks
theorem V_dret (F : Fx p s m args meth c cc nL own nme Ts ret D cy A) {v vo : UInt64} {w2 : va_W} (hr : ret = some .double) (d : decode cc pc = .ok (.dreturn, 1)) (hw : w = w2) (hv : v = vo) : V p l e R s m args below meth c nL D A cells slots (MQ below (ok_Q D w2 (some (.double vo)) A) args s cells slots A) w L [.double v] pc := fun H locs ls hP hD hS hl => by
  subst hw
  subst hv
  exact W.dret F.exec F.code (F.fret.trans hr) (fun t ht hW => ⟨⟨rfl, by rw [ht]; exact hP⟩, hS.F ht⟩) hS.2.2 d F.locks
theorem V_vret (F : Fx p s m args meth c cc nL own nme Ts ret D cy A) {w2 : va_W} (hr : ret = none) (d : decode cc pc = .ok (.return_, 1)) (hw : w = w2) : V p l e R s m args below meth c nL D A cells slots (MQ below (ok_Q D w2 none A) args s cells slots A) w L [] pc := fun H locs ls hP hD hS hl => by
  subst hw
  exact W.vret F.exec F.code (F.fret.trans hr) (fun t ht hW => ⟨⟨rfl, by rw [ht]; exact hP⟩, hS.F ht⟩) hS.2.2 d F.locks
end VV
theorem okM_of {l : Launch} {y : MethodName} {ws ws' : List Cond} {rm : Room} {maxL : Nat} {own nme : String} {cc : ByteArray} {ret : Option FieldType} {D : va_G} {cy : Nat → ClassId} {as : List Value} {w w' : va_W} {out : Option Value} (hy : plainName y.cls = true) (hw : ws = Cond.code y cc maxL ret :: ws') (hcls : y.cls = own) (hnm : y.name = nme) (hlen : (lg_sl as).length ≤ maxL)
    (body : ∀ (p : Program) (e : Env) (s : State) (m : MethodId) (args : Array Value) (below : List Frame) (meth : Method) (c : Code) (A : Nat → Prop), Fx p s m args meth c cc maxL own nme ws ret D cy A → V p l e rm s m args below meth c maxL D A 0 0 (MQ below (ok_Q D w' out A) args s 0 0 A) w (lv_args 0 as) [] 0) : okM l y ws rm D cy as w w' out := by
  intro sz
  refine Met.ofW (cc := cc) (maxL := maxL) (ret := ret) hy hw ?_
  intro p e s m args below meth c s₁ B hml hv
  obtain ⟨rfl, hsz, hP, hK, hD0, hNe⟩ := hv
  have hown : s.vm.findClass y.cls = some m.cls := findClass_of_methodNamed B.named
  have hts := atoms_spec (ws := ws) B.pre
  have hnam := (name_of_methodNamed B.named B.method).1
  subst hsz
  rw [lg_entry_eq]
  exact body p e s m _ below meth c (va_A w s.heap.size) ⟨B.exec, B.bytes, hml, hcls ▸ hown, hts, B.returns, B.notSynchronized, hK, fun q h => Or.inr h, hnm ▸ hnam, hNe⟩ s.heap [] _ hP hD0.self va_S.rf (lv_entry as hlen)
/-- an index looked at -/
def chk {α : Type} (i : Int32) (n : Nat) (k : Option α) : Option α := if i < 0 ∨ n ≤ i.toNatClampNeg then none else k
theorem chk_some {α : Type} {i : Int32} {n : Nat} {k : Option α} {o : α} (h : chk i n k = some o) : vp_in i n ∧ k = some o := by
  unfold chk at h
  split at h
  · cases h
  · exact ⟨by assumption, h⟩
/-- a value by its name -/
def nmd {α β : Type} (x : α) (k : α → Option β) : Option β := k x
theorem nmd_of {α β : Type} {x : α} {k : α → Option β} {o : β} (h : nmd x k = some o) : ∃ y, x = y ∧ k y = some o := ⟨x, rfl, h⟩
/-- a condition that must hold -/
def must {α : Type} (b : Bool) (k : Option α) : Option α := match b with
  | true => k
  | false => none
theorem must_some {α : Type} {b : Bool} {k : Option α} {o : α} (h : must b k = some o) : b = true ∧ k = some o := by
  cases b
  · cases h
  · exact ⟨rfl, h⟩
theorem bind_of {α β : Type} {x : Option α} {f : α → Option β} {o : β} (h : x.bind f = some o) : ∃ a, x = some a ∧ f a = some o := by
  cases x with
  | none => cases h
  | some a => exact ⟨a, rfl, h⟩
theorem some_of {α : Type} {a b : α} (h : some a = some b) : a = b := Option.some.inj h
theorem ite_pos {α : Type} {c : Prop} [Decidable c] {a b : α} {o : α} (h : (if c then a else b) = o) (hc : c) : a = o := by rw [if_pos hc] at h; exact h
theorem ite_neg {α : Type} {c : Prop} [Decidable c] {a b : α} {o : α} (h : (if c then a else b) = o) (hc : ¬ c) : b = o := by rw [if_neg hc] at h; exact h
theorem reps_set_self : ∀ (is : List Nat) (wc w : va_W), is.map (fun i => w[i]?) = wc.map some → reps w is wc = w
  | [], wc, w, _ => by cases wc <;> rfl
  | _ :: _, [], w, h => by simp at h
  | i :: is, x :: xs, w, h => by
    have h0 : w[i]? = some x := by simpa using congrArg List.head? h
    have h1 : is.map (fun i => w[i]?) = xs.map some := by simpa using congrArg List.tail h
    have h2 : w.set i x = w := by
      apply List.ext_getElem?
      intro k
      by_cases hk : k = i
      · subst hk
        rw [List.getElem?_set_self (List.getElem?_eq_some_iff.mp h0).1, h0]
      · rw [List.getElem?_set_ne (Ne.symm hk)]
    show reps (w.set i x) is xs = w
    rw [h2]
    exact reps_set_self is xs w h1
theorem reps_self {is : List Nat} {wc w : va_W} (h : is.map (fun i => w[i]?) = wc.map some) : reps w is wc = w := reps_set_self is wc w h
theorem fst_appX {a b c d : va_W} (h1 : a.map (·.1) = c.map (·.1)) (h2 : b.map (·.1) = d.map (·.1)) : (a ++ b).map (·.1) = (c ++ d).map (·.1) := by rw [List.map_append, List.map_append, h1, h2]
def onS {R Q T : Type} (u : R ⊕ Q) (f : R → Option T) (g : Q → Option T) : Option T := match u with
  | .inl r => f r
  | .inr q => g q
theorem onS_inl {R Q T : Type} {r : R} {f : R → Option T} {g : Q → Option T} {o : T} (h : onS (.inl r) f g = some o) : f r = some o := h
theorem onS_inr {R Q T : Type} {q : Q} {f : R → Option T} {g : Q → Option T} {o : T} (h : onS (.inr q) f g = some o) : g q = some o := h
theorem nar_bool {v : Int32} (h : v = 0 ∨ v = 1) : narrow .boolean (.int v) = .int v := by rcases h with rfl | rfl <;> rfl
def imax (x y : Int32) : Int32 := if x < y then y else x
def imin (x y : Int32) : Int32 := if y < x then y else x
theorem V_mmax {p : Program} {l : Launch} {e : Env} {R : Room} {s : State} {m : MethodId} {args : Array Value} {below : List Frame} {meth : Method} {c : Code} {nL : Nat} {own nme : String} {Ts : List Cond} {ret : Option FieldType} {D : va_G} {cy : Nat → ClassId} {A : Nat → Prop} {cells slots : Nat} {Q : State → Prop} {w : va_W} {L : List (Nat × Value)} {rest : List Value} {pc : Nat} {cc : ByteArray} (F : Fx p s m args meth c cc nL own nme Ts ret D cy A) {index : Nat} {x y : Int32} (h1 : Cond.methodLink own index Lib.Math.max.name ∈ Ts) (h2 : Cond.static Lib.Math.max.name ∈ Ts) (h3 : Cond.initialized "java/lang/Math" ∈ Ts) (h4 : Cond.code Lib.Math.max.name Lib.Math.max.code 2 (some .int) ∈ Ts) (d : decode cc pc = .ok (.invokestatic index, 3)) (hframes : 1 ≤ R.frames) (hlocals : (rest.map fun v => v.category).sum + 13 ≤ R.locals) (hc : cells ≤ R.cells) (hs : slots ≤ R.slots) (k : V p l e R s m args below meth c nL D A cells slots Q w L (.int (imax x y) :: rest) (pc + 3)) : V p l e R s m args below meth c nL D A cells slots Q w L (.int y :: .int x :: rest) pc := fun H locs ls hP hD hS hl => va_mmax F.exec F.code (F.ml.trans hl.1.symm) F.fown (F.ts _ h1) (F.ts _ h2) (F.ts _ h3) (F.ts _ h4) hframes hlocals hc hs d (k H locs ls hP hD hS hl)
theorem V_mmin {p : Program} {l : Launch} {e : Env} {R : Room} {s : State} {m : MethodId} {args : Array Value} {below : List Frame} {meth : Method} {c : Code} {nL : Nat} {own nme : String} {Ts : List Cond} {ret : Option FieldType} {D : va_G} {cy : Nat → ClassId} {A : Nat → Prop} {cells slots : Nat} {Q : State → Prop} {w : va_W} {L : List (Nat × Value)} {rest : List Value} {pc : Nat} {cc : ByteArray} (F : Fx p s m args meth c cc nL own nme Ts ret D cy A) {index : Nat} {x y : Int32} (h1 : Cond.methodLink own index Lib.Math.min.name ∈ Ts) (h2 : Cond.static Lib.Math.min.name ∈ Ts) (h3 : Cond.initialized "java/lang/Math" ∈ Ts) (h4 : Cond.code Lib.Math.min.name Lib.Math.min.code 2 (some .int) ∈ Ts) (d : decode cc pc = .ok (.invokestatic index, 3)) (hframes : 1 ≤ R.frames) (hlocals : (rest.map fun v => v.category).sum + 13 ≤ R.locals) (hc : cells ≤ R.cells) (hs : slots ≤ R.slots) (k : V p l e R s m args below meth c nL D A cells slots Q w L (.int (imin x y) :: rest) (pc + 3)) : V p l e R s m args below meth c nL D A cells slots Q w L (.int y :: .int x :: rest) pc := fun H locs ls hP hD hS hl => va_mmin F.exec F.code (F.ml.trans hl.1.symm) F.fown (F.ts _ h1) (F.ts _ h2) (F.ts _ h3) (F.ts _ h4) hframes hlocals hc hs d (k H locs ls hP hD hS hl)
