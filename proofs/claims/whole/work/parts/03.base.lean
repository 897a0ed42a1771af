abbrev vwCl : List vw_C := [(RX0, TX0, 5), (RX1, TX1, 7), (RX2, TX2, 11), (RX3, TX3, 1), (RX4, TX4, 11), (RX5, TX5, 2), (RX6, TX6, 4), (RX7, TX7, 9)]
/-! the memory: what the cell of a code holds, by its slot (a field's place, an array's index); every cell of the two objects has a code below 364, at the address 'ad code' -/
abbrev Mem : Type := Nat → Nat → Int32
def mput (m : Mem) (o k : Nat) (v : Int32) : Mem := fun a => if a = o then upd (m o) k v else m a
theorem mput_same (m : Mem) (o k : Nat) (v : Int32) : mput m o k v o = upd (m o) k v := if_pos rfl
theorem mput_other (m : Mem) {o a : Nat} (k : Nat) (v : Int32) (h : a ≠ o) : mput m o k v a = m a := if_neg h
def inb (i : Int32) (n : Nat) : Bool := decide (¬ (i < 0 ∨ n ≤ i.toNatClampNeg))
theorem inb_vp {i : Int32} {n : Nat} (h : inb i n = true) : vp_in i n := by
  unfold inb at h
  unfold vp_in
  exact of_decide_eq_true h
/-! the words of the functions: a value with a name, a guard, a call -/
def bd {α β : Type} (x : α) (f : α → Option β) : Option β := f x
theorem bd_e {α β : Type} {x : α} {f : α → Option β} {R : β} (h : bd x f = some R) : ∃ y, y = x ∧ f y = some R := ⟨x, rfl, h⟩
def gd {β : Type} (b : Bool) (x : Option β) : Option β := match b with
  | true => x
  | false => none
theorem gd_e {β : Type} {b : Bool} {x : Option β} {R : β} (h : gd b x = some R) : b = true ∧ x = some R := by
  cases b with
  | true => exact ⟨rfl, h⟩
  | false => cases h
def ob {ρ β : Type} (x : Option (ρ × Mem)) (f : ρ → Mem → Option β) : Option β := match x with
  | some (r, m) => f r m
  | none => none
theorem ob_e {ρ β : Type} {x : Option (ρ × Mem)} {f : ρ → Mem → Option β} {R : β} (h : ob x f = some R) : ∃ r m, x = some (r, m) ∧ f r m = some R := by
  cases x with
  | none => cases h
  | some q => exact ⟨q.1, q.2, rfl, h⟩
def ov {β : Type} (x : Option Mem) (f : Mem → Option β) : Option β := match x with
  | some m => f m
  | none => none
theorem ov_e {β : Type} {x : Option Mem} {f : Mem → Option β} {R : β} (h : ov x f = some R) : ∃ m, x = some m ∧ f m = some R := by
  cases x with
  | none => cases h
  | some q => exact ⟨q, rfl, h⟩
def oq {β : Type} (x : Option (Option Nat × Mem)) (fn : Mem → Option β) (fs : Nat → Mem → Option β) : Option β := match x with
  | some (some c, m) => fs c m
  | some (none, m) => fn m
  | none => none
theorem oq_e {β : Type} {x : Option (Option Nat × Mem)} {fn : Mem → Option β} {fs : Nat → Mem → Option β} {R : β} (h : oq x fn fs = some R) : (∃ m, x = some (none, m) ∧ fn m = some R) ∨ ∃ c m, x = some (some c, m) ∧ fs c m = some R := by
  match x, h with
  | some (some c, m), h => exact Or.inr ⟨c, m, rfl, h⟩
  | some (none, m), h => exact Or.inl ⟨m, rfl, h⟩
  | none, h => cases h
/-- a reference that may be null: two ways on -/
def cq {β : Type} (x : Option Nat) (fn : Option β) (fs : Nat → Option β) : Option β := match x with
  | some c => fs c
  | none => fn
theorem cq_n {β : Type} (fn : Option β) (fs : Nat → Option β) : cq none fn fs = fn := rfl
theorem cq_s {β : Type} (c : Nat) (fn : Option β) (fs : Nat → Option β) : cq (some c) fn fs = fs c := rfl
def nz (y : Int32) : Bool := decide (¬ y = 0)
theorem nz_ne {y : Int32} (h : nz y = true) : ¬ y = 0 := of_decide_eq_true h
def isZ (x : Int32) : Bool := decide (x = 0) || decide (x = 1)
theorem isZ_or {x : Int32} (h : isZ x = true) : x = 0 ∨ x = 1 := by
  rcases Bool.or_eq_true _ _ ▸ h with h | h
  · exact Or.inl (of_decide_eq_true h)
  · exact Or.inr (of_decide_eq_true h)
theorem isZ_n {x : Int32} (h : isZ x = true) : narrow .boolean (.int x) = .int x := by
  rcases isZ_or h with h | h <;> subst h <;> rfl
def nn32 (r : UInt32) : Bool := decide (r &&& 0x7fffffff ≤ 0x7f800000)
theorem nn32_v {r : UInt32} (h : nn32 r = true) : vf_n32 r := by
  unfold nn32 at h
  unfold vf_n32
  exact of_decide_eq_true h
theorem inb_lt {i : Int32} {n : Nat} (h : inb i n = true) : i.toNatClampNeg < n := Nat.not_le.mp fun q => inb_vp h (Or.inr q)
theorem i32_ext {x y : Int32} (h : x.toInt = y.toInt) : x = y := Int32.toInt_inj.mp h
theorem sw_out4 {x : Int32} (h0 : ¬ x = 0) (h1 : ¬ x = 1) (h2 : ¬ x = 2) (h3 : ¬ x = 3) : x.toInt < 0 ∨ 3 < x.toInt := by
  have e0 : x.toInt ≠ 0 := fun h => h0 (i32_ext h)
  have e1 : x.toInt ≠ 1 := fun h => h1 (i32_ext h)
  have e2 : x.toInt ≠ 2 := fun h => h2 (i32_ext h)
  have e3 : x.toInt ≠ 3 := fun h => h3 (i32_ext h)
  omega
theorem lk_out2 {x : Int32} {o0 o1 d : Int} (h0 : ¬ x = 0) (h1 : ¬ x = 1) : Op.lookupswitch.offset (#[((0 : Int), o0), ((1 : Int), o1)] : Array (Int × Int)).toList d x.toInt = d := by
  have e0 : ¬ (0 : Int) = x.toInt := fun h => h0 (i32_ext h.symm)
  have e1 : ¬ (1 : Int) = x.toInt := fun h => h1 (i32_ext h.symm)
  show (if (0 : Int) = x.toInt then o0 else if (1 : Int) = x.toInt then o1 else d) = d
  rw [if_neg e0, if_neg e1]
/-! the shapes -/
section SHAPES
variable (ad : Nat → Nat) (cI cR : ClassId)
def shL (b o : Nat) (row : Nat → Int32) : va_E :=
  if o = 0 then .inr (1, [.ref (ad (b + 1)), .ref (ad (b + 3)), .ref (ad (b + 5)), .int (row 3), .int (row 4), .int (row 5), .int (row 6)])
  else if o = 1 then .inr (3, [.ref (ad (b + 2))])
  else if o = 2 then .inl (cI, 4, .inl row)
  else if o = 3 then .inr (3, [.ref (ad (b + 4))])
  else if o = 4 then .inl (cI, 6, .inl row)
  else if o = 5 then .inr (3, [.ref (ad (b + 6))])
  else .inl (cI, 8, .inl row)
def shS (b o : Nat) (row : Nat → Int32) : va_E :=
  if o = 0 then .inr (4, [.ref (ad (b + 1)), .ref (ad (b + 3)), .ref (ad (b + 5)), .ref (ad (b + 12)), .ref (ad (b + 19)), .ref (ad (b + 26)), .int (row 6), .int (row 7), .int (row 8), .int (row 9), .int (row 10)])
  else if o = 1 then .inr (3, [.ref (ad (b + 2))])
  else if o = 2 then .inl (cI, 4, .inl row)
  else if o = 3 then .inr (3, [.ref (ad (b + 4))])
  else if o = 4 then .inl (cI, 5, .inl row)
  else if o < 12 then shL ad cI (b + 5) (o - 5) row
  else if o < 19 then shL ad cI (b + 12) (o - 12) row
  else if o < 26 then shL ad cI (b + 19) (o - 19) row
  else if o = 26 then .inl (cR, 32, .inr (.inr (.inr (.inr (fun i => some (ad (b + 27 + i)))))))
  else .inr (2, [.int (row 0), .int (row 1), .int (row 2), .int (row 3), .int (row 4), .int (row 5), .int (row 6), .int (row 7), .int (row 8), .int (row 9), .int (row 10)])
def sh (o : Nat) (row : Nat → Int32) : va_E :=
  if o = 0 then .inr (6, [.ref (ad 1), .ref (ad 60), .ref (ad 119), .ref (ad 356)])
  else if o < 60 then shS ad cI cR 1 (o - 1) row
  else if o < 119 then shS ad cI cR 60 (o - 60) row
  else if o = 119 then .inr (0, [.ref (ad (row 0).toNatClampNeg), .ref (ad (row 1).toNatClampNeg), .ref (ad (row 2).toNatClampNeg), .ref (ad (row 3).toNatClampNeg), .int (row 4)])
  else if o < 179 then shS ad cI cR 120 (o - 120) row
  else if o < 238 then shS ad cI cR 179 (o - 179) row
  else if o < 297 then shS ad cI cR 238 (o - 238) row
  else if o < 356 then shS ad cI cR 297 (o - 297) row
  else if o = 356 then .inr (5, [.ref (ad 357), .int (row 1)])
  else if o = 357 then .inr (3, [.ref (ad 358)])
  else if o = 358 then .inl (cI, 80, .inl row)
  else if o = 359 then .inr (7, [.ref (ad 360), .ref (ad 361), .ref (ad 362), .int (row 3), .ref (ad 363), .int (row 5), .int (row 6), .int (row 7), .int (row 8)])
  else if o = 360 then .inl (cI, 395, .inl row)
  else if o = 361 then .inl (cI, 395, .inl row)
  else if o = 362 then .inl (cI, 1580, .inl row)
  else .inl (cI, 80, .inl row)
def sArr (o n : Nat) : Prop := o < 364 ∧ ∀ row, sh ad cI cR o row = .inl (cI, n, .inl row)
def sRow (o n : Nat) : Prop := o < 364 ∧ (∀ row, sh ad cI cR o row = .inr (3, [.ref (ad (o + 1))])) ∧ sArr ad cI cR (o + 1) n
def sReq (o : Nat) : Prop := o < 364 ∧ ∀ row, sh ad cI cR o row = .inr (2, [.int (row 0), .int (row 1), .int (row 2), .int (row 3), .int (row 4), .int (row 5), .int (row 6), .int (row 7), .int (row 8), .int (row 9), .int (row 10)])
def sLane (o : Nat) : Prop := o < 364 ∧ (∀ row, sh ad cI cR o row = .inr (1, [.ref (ad (o + 1)), .ref (ad (o + 3)), .ref (ad (o + 5)), .int (row 3), .int (row 4), .int (row 5), .int (row 6)])) ∧ sRow ad cI cR (o + 1) 4 ∧ sRow ad cI cR (o + 3) 6 ∧ sRow ad cI cR (o + 5) 8
def sSlots (o r : Nat) : Prop := o < 364 ∧ (∀ row, sh ad cI cR o row = .inl (cR, 32, .inr (.inr (.inr (.inr (fun i => some (ad (r + i)))))))) ∧ ∀ i, i < 32 → sReq ad cI cR (r + i)
def sSrv (b : Nat) : Prop := b < 364 ∧ (∀ row, sh ad cI cR b row = .inr (4, [.ref (ad (b + 1)), .ref (ad (b + 3)), .ref (ad (b + 5)), .ref (ad (b + 12)), .ref (ad (b + 19)), .ref (ad (b + 26)), .int (row 6), .int (row 7), .int (row 8), .int (row 9), .int (row 10)])) ∧ sRow ad cI cR (b + 1) 4 ∧ sRow ad cI cR (b + 3) 5 ∧ sLane ad cI cR (b + 5) ∧ sLane ad cI cR (b + 12) ∧ sLane ad cI cR (b + 19) ∧ sSlots ad cI cR (b + 26) (b + 27)
def sHist (o : Nat) : Prop := o < 364 ∧ ∀ row, sh ad cI cR o row = .inr (0, [.ref (ad (row 0).toNatClampNeg), .ref (ad (row 1).toNatClampNeg), .ref (ad (row 2).toNatClampNeg), .ref (ad (row 3).toNatClampNeg), .int (row 4)])
def sText (o : Nat) : Prop := o < 364 ∧ (∀ row, sh ad cI cR o row = .inr (5, [.ref (ad (o + 1)), .int (row 1)])) ∧ sRow ad cI cR (o + 1) 80
end SHAPES
def isSb (c : Nat) : Bool := decide (c = 1 ∨ c = 60 ∨ c = 120 ∨ c = 179 ∨ c = 238 ∨ c = 297)
/-! the world of all codes -/
def cw (ad : Nat → Nat) (cI cR : ClassId) (m : Mem) : va_W := (List.range 364).map (fun i => (ad i, sh ad cI cR i (m i)))
def tyz (cI cR : ClassId) : List (ClassId × FieldType) := [(cI, .int), (cR, .object "AdmissionControl$Request")]
def inj (ad : Nat → Nat) : Prop := ∀ i j, i < 364 → j < 364 → ad i = ad j → i = j
def AA (ad : Nat → Nat) : Nat → Prop := fun q => ∃ i, i < 364 ∧ q = ad i
theorem cw_at {ad : Nat → Nat} {cI cR : ClassId} {m : Mem} {o : Nat} (ho : o < 364) : (cw ad cI cR m)[o]? = some (ad o, sh ad cI cR o (m o)) := by
  unfold cw
  rw [List.getElem?_map, List.getElem?_range ho]
  rfl
theorem cw_in {ad : Nat → Nat} {cI cR : ClassId} {m : Mem} {k : Nat} {q : Nat × va_E} (h : (cw ad cI cR m)[k]? = some q) : k < 364 ∧ q.1 = ad k := by
  have hk : k < 364 := by
    have := (List.getElem?_eq_some_iff.mp h).1
    unfold cw at this
    rw [List.length_map, List.length_range] at this
    exact this
  rw [cw_at hk] at h
  cases h
  exact ⟨hk, rfl⟩
theorem cw_D {ad : Nat → Nat} {cI cR : ClassId} {m : Mem} {A : Nat → Prop} (hi : inj ad) (hA : ∀ q, AA ad q → A q) : va_D A (cw ad cI cR m) := by
  refine ⟨fun i j p q h1 h2 e => ?_, fun k q h => ?_⟩
  · obtain ⟨a1, b1⟩ := cw_in h1
    obtain ⟨a2, b2⟩ := cw_in h2
    exact hi i j a1 a2 (b1.symm.trans (e.trans b2))
  · obtain ⟨a1, b1⟩ := cw_in h
    exact hA _ ⟨k, a1, b1⟩
theorem cw_set {ad : Nat → Nat} {cI cR : ClassId} {m : Mem} {o k : Nat} {v : Int32} {e : va_E} (ho : o < 364) (he : e = sh ad cI cR o (upd (m o) k v)) : (cw ad cI cR m).set o (ad o, e) = cw ad cI cR (mput m o k v) := by
  subst he
  refine List.ext_getElem? fun i => ?_
  rcases Nat.lt_or_ge i 364 with hi | hi
  · by_cases h : i = o
    · subst h
      rw [List.getElem?_set_self (by unfold cw; rw [List.length_map, List.length_range]; exact hi), cw_at hi, mput_same]
    · rw [List.getElem?_set_ne (Ne.symm h), cw_at hi, cw_at hi, mput_other _ _ _ h]
  · rw [List.getElem?_eq_none (by unfold cw; rw [List.length_set, List.length_map, List.length_range]; exact hi), List.getElem?_eq_none (by unfold cw; rw [List.length_map, List.length_range]; exact hi)]
/-! the links between nest mates -/
def NF (U : State) : Prop := va_Nw (.methodLinkNest RX4 77 yX6_isKind RX6) U ∧ va_Nw (.methodLinkNest RX4 81 yX6_isShape RX6) U ∧ va_Nw (.methodLinkNest RX4 85 yX6_isBetween RX6) U ∧ va_Nw (.methodLinkNest RX4 130 yX6_quotient RX6) U ∧ va_Nw (.methodLinkNest RX5 37 yX6_isBetween RX6) U
theorem NF.warm {s U : State} (hW : s.WarmedH U.vm) (h : NF s) : NF U := ⟨va_Nw.warmM hW h.1, va_Nw.warmM hW h.2.1, va_Nw.warmM hW h.2.2.1, va_Nw.warmM hW h.2.2.2.1, va_Nw.warmM hW h.2.2.2.2⟩
theorem NF.same {s U : State} (hv : s.vm = U.vm) (h : NF s) : NF U := ⟨va_Nw.same rfl hv h.1, va_Nw.same rfl hv h.2.1, va_Nw.same rfl hv h.2.2.1, va_Nw.same rfl hv h.2.2.2.1, va_Nw.same rfl hv h.2.2.2.2⟩
/-! contracts -/
def KK (D : va_G) (ad : Nat → Nat) (cI cR : ClassId) (mm : Mem) (U : State) : Prop := va_P D vwCl (cw ad cI cR mm) U.heap ∧ va_K D vwCl (tyz cI cR) U ∧ NF U
def KB (D : va_G) (ad : Nat → Nat) (cI cR : ClassId) (u : Mem) (t : State) : Prop := va_P D vwCl (cw ad cI cR u) t.heap
def MI (l : Launch) (y : MethodName) (ws : List Cond) (rm : Room) (D : va_G) (ad : Nat → Nat) (cI cR : ClassId) (as : List Value) (mm : Mem) (r : Int32) (m1 : Mem) : Prop := Met l y ws rm (va_Pc as (KK D ad cI cR mm)) (va_Qi (fun (r' : Int32) (u : Mem) => r' = r ∧ u = m1) (KB D ad cI cR) (AA ad)) 0 0 (AA ad)
def MV (l : Launch) (y : MethodName) (ws : List Cond) (rm : Room) (D : va_G) (ad : Nat → Nat) (cI cR : ClassId) (as : List Value) (mm : Mem) (m1 : Mem) : Prop := Met l y ws rm (va_Pc as (KK D ad cI cR mm)) (va_Qv (fun (u : Mem) => u = m1) (KB D ad cI cR) (AA ad)) 0 0 (AA ad)
def MO (l : Launch) (y : MethodName) (ws : List Cond) (rm : Room) (D : va_G) (ad : Nat → Nat) (cI cR : ClassId) (as : List Value) (mm : Mem) (r : Option Nat) (m1 : Mem) : Prop := Met l y ws rm (va_Pc as (KK D ad cI cR mm)) (va_Qq (fun (r' : Option Nat) (u : Mem) => r' = r.map ad ∧ u = m1) (KB D ad cI cR) (AA ad)) 0 0 (AA ad)
def MF (l : Launch) (y : MethodName) (ws : List Cond) (rm : Room) (D : va_G) (ad : Nat → Nat) (cI cR : ClassId) (as : List Value) (mm : Mem) (r : UInt32) (m1 : Mem) : Prop := Met l y ws rm (va_Pc as (KK D ad cI cR mm)) (va_Qf (fun (r' : UInt32) (u : Mem) => r' = r ∧ u = m1) (KB D ad cI cR) (AA ad)) 0 0 (AA ad)
theorem KK_blind {D : va_G} {ad : Nat → Nat} {cI cR : ClassId} {mm : Mem} {as : List Value} : FrameBlind (va_Pc as (KK D ad cI cR mm)) := fun a U g mk q => by
  obtain ⟨q0, qP, qK, qN⟩ := q
  exact ⟨q0, qP, va_K.moved (u := U) (U := U.calling g mk a) (Vm.Alike.refl U.vm) qK, NF.same (s := U) (U := U.calling g mk a) rfl qN⟩
section WROWS
variable {p : Program} {l : Launch} {e : Env} {R : Room} {s : State} {m : MethodId} {args : Array Value} {below : List Frame} {meth : Method} {c : Code} {H : Heap} {locs : List Loc} {cells slots : Nat} {Q : State → Prop}
variable {cc : ByteArray} {pc : Nat} {ls : Array Slot} {rest st0 : List Value} {D : va_G} {A : Nat → Prop} {H0 : Heap} {ad : Nat → Nat} {cI cR : ClassId} {mm m1 : Mem} {a : Array Value}
theorem w_get (hexec : p.tables.exec = Jvm.exec) (hb : c.code = cc) {own ref C : String} {T : u_T} {N ci index : Nat} {Ts : List Cond} (hts : ∀ w ∈ Ts, w.before args s = true) (hin : ∀ w ∈ u_ws C T N, w ∈ Ts) (hown : s.vm.findClass own = some m.cls) (hK : va_K D vwCl (tyz cI cR) s) (hP : va_P D vwCl (cw ad cI cR mm) H) {o : Nat} {F : (Nat → Int32) → List Value} (ho : o < 364) (hsh : ∀ row, sh ad cI cR o row = .inr (ci, F row)) (hc : vwCl[ci]? = some (C, T, N)) (k : Nat) (hk : k < N) (hlink : (Cond.fieldLink own index ref (T k).2.1 (T k).2.2.1).before args s = true) (hsame : ∀ x, s.fieldFound? (T k).1 (T k).2.1 (T k).2.2.1 = some x → s.fieldFound? ref (T k).2.1 (T k).2.2.1 = some x) {v : Value} (hv : (F (mm o))[k]? = some v) (hdg : decode cc pc = .ok (.getfield index, 3))
    (kk : W p l e R s m args below meth c H locs cells slots Q (F0 m (pc + 3) ls (v :: rest))) : W p l e R s m args below meth c H locs cells slots Q (F0 m pc ls (.ref (ad o) :: rest)) :=
  va_get hexec hb hts hin hown hK hP o ((cw_at ho).trans (by rw [hsh])) hc k hk hlink hsame hv hdg kk
theorem w_put (hexec : p.tables.exec = Jvm.exec) (hb : c.code = cc) {own ref C : String} {T : u_T} {N ci index : Nat} {Ts : List Cond} (hts : ∀ w ∈ Ts, w.before args s = true) (hin : ∀ w ∈ u_ws C T N, w ∈ Ts) (ty0 : Nat → FieldType) (hty : ∀ k, k < N → parseFieldDescriptor (T k).2.2.1 = some (ty0 k)) (hnm : ∀ a, a < N → ∀ b, b < N → a ≠ b → (T a).2.1 ≠ (T b).2.1) (hown : s.vm.findClass own = some m.cls) (hi : inj ad) (hA : ∀ q, AA ad q → A q) (hK : va_K D vwCl (tyz cI cR) s) (hP : va_P D vwCl (cw ad cI cR mm) H) (hS : va_S A H0 H locs) {o : Nat} {F : (Nat → Int32) → List Value} (ho : o < 364) (hsh : ∀ row, sh ad cI cR o row = .inr (ci, F row)) (hc : vwCl[ci]? = some (C, T, N)) (k : Nat) (hk : k < N) (hlink : (Cond.fieldLink own index ref (T k).2.1 (T k).2.2.1).before args s = true) (hsame : ∀ x, s.fieldFound? (T k).1 (T k).2.1 (T k).2.2.1 = some x → s.fieldFound? ref (T k).2.1 (T k).2.2.1 = some x) (hfin : (T k).2.2.2 = false) {x : Int32} {v : Value} (hn : narrow (ty0 k) v = v) (hfit : fits (ty0 k) v = true) (hl : k < (F (mm o)).length) (hF : (F (mm o)).set k v = F (upd (mm o) k x)) (hdg : decode cc pc = .ok (.putfield index, 3))
    (kk : ∀ (H1 : Heap) (locs1 : List Loc), va_P D vwCl (cw ad cI cR (mput mm o k x)) H1 → va_S A H0 H1 locs1 → W p l e R s m args below meth c H1 locs1 cells slots Q (F0 m (pc + 3) ls rest)) : W p l e R s m args below meth c H locs cells slots Q (F0 m pc ls (v :: .ref (ad o) :: rest)) := by
  have he : (cw ad cI cR mm)[o]? = some (ad o, .inr (ci, F (mm o))) := (cw_at ho).trans (by rw [hsh])
  refine va_put hexec hb hts hin ty0 hty hnm hown hK hP (cw_D hi hA) hS o he hc k hk hlink hsame hfin (hty k hk) hn hfit hl hdg (fun H1 locs1 hP1 _ hS1 => ?_)
  rw [cw_set (k := k) (v := x) ho (by rw [hsh, hF])] at hP1
  exact kk H1 locs1 hP1 hS1
theorem w_ald (hexec : p.tables.exec = Jvm.exec) (hb : c.code = cc) (hK : va_K D vwCl (tyz cI cR) s) (hP : va_P D vwCl (cw ad cI cR mm) H) {o n : Nat} (hsh : sArr ad cI cR o n) {i : Int32} (hin : inb i n = true) (hdg : decode cc pc = .ok (.iaload, 1))
    (kk : W p l e R s m args below meth c H locs cells slots Q (F0 m (pc + 1) ls (.int (mm o i.toNatClampNeg) :: rest))) : W p l e R s m args below meth c H locs cells slots Q (F0 m pc ls (.int i :: .ref (ad o) :: rest)) :=
  va_iald hexec hb hK hP o 0 ((cw_at hsh.1).trans (by rw [hsh.2])) rfl (inb_vp hin) hdg kk
theorem w_ast (hexec : p.tables.exec = Jvm.exec) (hb : c.code = cc) (hi : inj ad) (hA : ∀ q, AA ad q → A q) (hK : va_K D vwCl (tyz cI cR) s) (hP : va_P D vwCl (cw ad cI cR mm) H) (hS : va_S A H0 H locs) {o n : Nat} (hsh : sArr ad cI cR o n) {i : Int32} {x : Int32} (hin : inb i n = true) (hdg : decode cc pc = .ok (.iastore, 1))
    (kk : ∀ (H1 : Heap) (locs1 : List Loc), va_P D vwCl (cw ad cI cR (mput mm o i.toNatClampNeg x)) H1 → va_S A H0 H1 locs1 → W p l e R s m args below meth c H1 locs1 cells slots Q (F0 m (pc + 1) ls rest)) : W p l e R s m args below meth c H locs cells slots Q (F0 m pc ls (.int x :: .int i :: .ref (ad o) :: rest)) := by
  have he : (cw ad cI cR mm)[o]? = some (ad o, .inl (cI, n, .inl (mm o))) := (cw_at hsh.1).trans (by rw [hsh.2])
  refine va_iast hexec hb hK hP (cw_D hi hA) hS o 0 he rfl (inb_vp hin) hdg (fun H1 locs1 hP1 _ hS1 => ?_)
  rw [cw_set (k := i.toNatClampNeg) (v := x) hsh.1 (by rw [hsh.2])] at hP1
  exact kk H1 locs1 hP1 hS1
theorem w_len (hexec : p.tables.exec = Jvm.exec) (hb : c.code = cc) (hK : va_K D vwCl (tyz cI cR) s) (hP : va_P D vwCl (cw ad cI cR mm) H) {o n : Nat} (hsh : sArr ad cI cR o n) (hdg : decode cc pc = .ok (.arraylength, 1))
    (kk : W p l e R s m args below meth c H locs cells slots Q (F0 m (pc + 1) ls (.int (nI n) :: rest))) : W p l e R s m args below meth c H locs cells slots Q (F0 m pc ls (.ref (ad o) :: rest)) :=
  va_alen (x := (n, .inl (mm o))) hexec hb hK hP o 0 ((cw_at hsh.1).trans (by rw [hsh.2])) rfl rfl hdg kk
theorem w_lenS (hexec : p.tables.exec = Jvm.exec) (hb : c.code = cc) (hK : va_K D vwCl (tyz cI cR) s) (hP : va_P D vwCl (cw ad cI cR mm) H) {o r : Nat} (hsh : sSlots ad cI cR o r) (hdg : decode cc pc = .ok (.arraylength, 1))
    (kk : W p l e R s m args below meth c H locs cells slots Q (F0 m (pc + 1) ls (.int (nI 32) :: rest))) : W p l e R s m args below meth c H locs cells slots Q (F0 m pc ls (.ref (ad o) :: rest)) :=
  va_alen (x := (32, .inr (.inr (.inr (.inr (fun i => some (ad (r + i)))))))) hexec hb hK hP o 1 ((cw_at hsh.1).trans (by rw [hsh.2.1])) rfl rfl hdg kk
theorem w_aldS (hexec : p.tables.exec = Jvm.exec) (hb : c.code = cc) (hK : va_K D vwCl (tyz cI cR) s) (hP : va_P D vwCl (cw ad cI cR mm) H) {o r : Nat} (hsh : sSlots ad cI cR o r) {i : Int32} (hin : inb i 32 = true) (hdg : decode cc pc = .ok (.aaload, 1))
    (kk : W p l e R s m args below meth c H locs cells slots Q (F0 m (pc + 1) ls (.ref (ad (r + i.toNatClampNeg)) :: rest))) : W p l e R s m args below meth c H locs cells slots Q (F0 m pc ls (.int i :: .ref (ad o) :: rest)) :=
  va_aldq (f := fun i => some (ad (r + i))) (n := 32) hexec hb hK hP o 1 ((cw_at hsh.1).trans (by rw [hsh.2.1])) rfl (inb_vp hin) hdg kk
theorem w_top {x y : Int32} (h : y = x) (k : W p l e R s m args below meth c H locs cells slots Q (F0 m pc ls (.int y :: rest))) : W p l e R s m args below meth c H locs cells slots Q (F0 m pc ls (.int x :: rest)) := h ▸ k
/-- a receiver -/
theorem w_preV {As : List Value} {o : Nat} {F : (Nat → Int32) → List Value} {ci N : Nat} {C : String} {T : u_T} (hK : va_K D vwCl (tyz cI cR) s) (hP : va_P D vwCl (cw ad cI cR mm) H) (hN : NF s) (ho : o < 364) (hsh : ∀ row, sh ad cI cR o row = .inr (ci, F row)) (hc : vwCl[ci]? = some (C, T, N)) : PreV s H C (ad o) (va_Pc (.ref (ad o) :: As) (KK D ad cI cR mm)) As :=
  ⟨KK_blind, va_recv hK hP hc ((cw_at ho).trans (by rw [hsh])), fun U hU hW => ⟨rfl, by rw [hU]; exact hP, va_K.moved hW.alike hK, NF.warm hW hN⟩⟩
theorem w_preS {As : List Value} (hK : va_K D vwCl (tyz cI cR) s) (hP : va_P D vwCl (cw ad cI cR mm) H) (hN : NF s) : PreS s H (va_Pc As (KK D ad cI cR mm)) As :=
  ⟨KK_blind, fun U hU hW => ⟨rfl, by rw [hU]; exact hP, va_K.moved hW.alike hK, NF.warm hW hN⟩⟩
theorem w_ci {r : Int32} (hr : va_Run p l e R s m args below meth c H locs cells slots 0 0 (F0 m pc ls st0) rest (va_Qi (fun (r' : Int32) (u : Mem) => r' = r ∧ u = m1) (KB D ad cI cR) (AA ad) a) (AA ad)) (hA : ∀ q, AA ad q → A q) (hS : va_S A H0 H locs)
    (kk : ∀ (H1 : Heap) (locs1 : List Loc), va_P D vwCl (cw ad cI cR m1) H1 → va_S A H0 H1 locs1 → W p l e R s m args below meth c H1 locs1 cells slots Q (F0 m (pc + 3) ls (.int r :: rest))) : W p l e R s m args below meth c H locs cells slots Q (F0 m pc ls st0) :=
  va_calli hr hS (fun q _ h => hA q h) hA (fun r' u t H1 locs1 ht _ hw hB _ _ hS1 => by
    obtain ⟨rfl, rfl⟩ := hw
    unfold KB at hB
    rw [ht] at hB
    exact kk H1 locs1 hB hS1)
theorem w_cv (hr : va_Run p l e R s m args below meth c H locs cells slots 0 0 (F0 m pc ls st0) rest (va_Qv (fun (u : Mem) => u = m1) (KB D ad cI cR) (AA ad) a) (AA ad)) (hA : ∀ q, AA ad q → A q) (hS : va_S A H0 H locs)
    (kk : ∀ (H1 : Heap) (locs1 : List Loc), va_P D vwCl (cw ad cI cR m1) H1 → va_S A H0 H1 locs1 → W p l e R s m args below meth c H1 locs1 cells slots Q (F0 m (pc + 3) ls rest)) : W p l e R s m args below meth c H locs cells slots Q (F0 m pc ls st0) :=
  va_callv hr hS (fun q _ h => hA q h) hA (fun u t H1 locs1 ht _ hw hB _ _ hS1 => by
    subst hw
    unfold KB at hB
    rw [ht] at hB
    exact kk H1 locs1 hB hS1)
theorem w_cf {r : UInt32} (hr : va_Run p l e R s m args below meth c H locs cells slots 0 0 (F0 m pc ls st0) rest (va_Qf (fun (r' : UInt32) (u : Mem) => r' = r ∧ u = m1) (KB D ad cI cR) (AA ad) a) (AA ad)) (hA : ∀ q, AA ad q → A q) (hS : va_S A H0 H locs)
    (kk : ∀ (H1 : Heap) (locs1 : List Loc), va_P D vwCl (cw ad cI cR m1) H1 → va_S A H0 H1 locs1 → W p l e R s m args below meth c H1 locs1 cells slots Q (F0 m (pc + 3) ls (.float r :: rest))) : W p l e R s m args below meth c H locs cells slots Q (F0 m pc ls st0) :=
  va_callf hr hS (fun q _ h => hA q h) hA (fun r' u t H1 locs1 ht _ hw hB _ _ hS1 => by
    obtain ⟨rfl, rfl⟩ := hw
    unfold KB at hB
    rw [ht] at hB
    exact kk H1 locs1 hB hS1)
theorem w_cq {r : Option Nat} (hr : va_Run p l e R s m args below meth c H locs cells slots 0 0 (F0 m pc ls st0) rest (va_Qq (fun (r' : Option Nat) (u : Mem) => r' = r.map ad ∧ u = m1) (KB D ad cI cR) (AA ad) a) (AA ad)) (hA : ∀ q, AA ad q → A q) (hS : va_S A H0 H locs)
    (kk : ∀ (H1 : Heap) (locs1 : List Loc), va_P D vwCl (cw ad cI cR m1) H1 → va_S A H0 H1 locs1 → W p l e R s m args below meth c H1 locs1 cells slots Q (F0 m (pc + 3) ls (va_rf (r.map ad) :: rest))) : W p l e R s m args below meth c H locs cells slots Q (F0 m pc ls st0) :=
  va_callq hr hS (fun q _ h => hA q h) hA (fun r' u t H1 locs1 ht _ hw hB _ _ hS1 => by
    obtain ⟨rfl, rfl⟩ := hw
    unfold KB at hB
    rw [ht] at hB
    exact kk H1 locs1 hB hS1)
theorem w_iret {r : Int32} (hexec : p.tables.exec = Jvm.exec) (hb : c.code = cc) (hr : meth.sig.returnType = some .int) (hlocks : meth.locks = false) (hP : va_P D vwCl (cw ad cI cR m1) H) (hS : va_S (AA ad) s.heap H locs) (hdg : decode cc pc = .ok (.ireturn, 1)) : W p l e R s m args below meth c H locs 0 0 (MQ below (va_Qi (fun (r' : Int32) (u : Mem) => r' = r ∧ u = m1) (KB D ad cI cR) (AA ad)) args s 0 0 (AA ad)) (F0 m pc ls [.int r]) :=
  W.iret (v := r) hexec hb hr (fun t ht _ => ⟨⟨r, m1, rfl, ⟨rfl, rfl⟩, by unfold KB; rw [ht]; exact hP⟩, hS.F ht⟩) hS.2.2 hdg hlocks
theorem w_zret {r : Int32} (hexec : p.tables.exec = Jvm.exec) (hb : c.code = cc) (hr : meth.sig.returnType = some .boolean) (hlocks : meth.locks = false) (hn : narrow .boolean (.int r) = .int r) (hP : va_P D vwCl (cw ad cI cR m1) H) (hS : va_S (AA ad) s.heap H locs) (hdg : decode cc pc = .ok (.ireturn, 1)) : W p l e R s m args below meth c H locs 0 0 (MQ below (va_Qi (fun (r' : Int32) (u : Mem) => r' = r ∧ u = m1) (KB D ad cI cR) (AA ad)) args s 0 0 (AA ad)) (F0 m pc ls [.int r]) :=
  W.zret (v := r) hexec hb hr hn (fun t ht _ => ⟨⟨r, m1, rfl, ⟨rfl, rfl⟩, by unfold KB; rw [ht]; exact hP⟩, hS.F ht⟩) hS.2.2 hdg hlocks
theorem w_fret {r : UInt32} (hexec : p.tables.exec = Jvm.exec) (hb : c.code = cc) (hr : meth.sig.returnType = some .float) (hlocks : meth.locks = false) (hP : va_P D vwCl (cw ad cI cR m1) H) (hS : va_S (AA ad) s.heap H locs) (hdg : decode cc pc = .ok (.freturn, 1)) : W p l e R s m args below meth c H locs 0 0 (MQ below (va_Qf (fun (r' : UInt32) (u : Mem) => r' = r ∧ u = m1) (KB D ad cI cR) (AA ad)) args s 0 0 (AA ad)) (F0 m pc ls [.float r]) :=
  W.fret (v := r) hexec hb hr (fun t ht _ => ⟨⟨r, m1, rfl, ⟨rfl, rfl⟩, by unfold KB; rw [ht]; exact hP⟩, hS.F ht⟩) hS.2.2 hdg hlocks
theorem w_vret (hexec : p.tables.exec = Jvm.exec) (hb : c.code = cc) (hr : meth.sig.returnType = none) (hlocks : meth.locks = false) (hP : va_P D vwCl (cw ad cI cR m1) H) (hS : va_S (AA ad) s.heap H locs) (hdg : decode cc pc = .ok (.return_, 1)) : W p l e R s m args below meth c H locs 0 0 (MQ below (va_Qv (fun (u : Mem) => u = m1) (KB D ad cI cR) (AA ad)) args s 0 0 (AA ad)) (F0 m pc ls []) :=
  W.vret hexec hb hr (fun t ht _ => ⟨⟨m1, rfl, rfl, by unfold KB; rw [ht]; exact hP⟩, hS.F ht⟩) hS.2.2 hdg hlocks
theorem w_aret {r : Option Nat} {v : Value} {C : String} (hexec : p.tables.exec = Jvm.exec) (hb : c.code = cc) (hr : meth.sig.returnType = some (.object C)) (hlocks : meth.locks = false) (hv : v = va_rf (r.map ad)) (hP : va_P D vwCl (cw ad cI cR m1) H) (hS : va_S (AA ad) s.heap H locs) (hdg : decode cc pc = .ok (.areturn, 1)) : W p l e R s m args below meth c H locs 0 0 (MQ below (va_Qq (fun (r' : Option Nat) (u : Mem) => r' = r.map ad ∧ u = m1) (KB D ad cI cR) (AA ad)) args s 0 0 (AA ad)) (F0 m pc ls [v]) := by
  subst hv
  exact W.aret (v := va_rf (r.map ad)) hexec hb hr (Or.inl ⟨C, rfl⟩) (va_rf_or _) (fun t ht _ => ⟨⟨r.map ad, m1, rfl, ⟨rfl, rfl⟩, by unfold KB; rw [ht]; exact hP⟩, hS.F ht⟩) hS.2.2 hdg hlocks
end WROWS
section WROWS2
variable {p : Program} {l : Launch} {e : Env} {R : Room} {s : State} {m : MethodId} {args : Array Value} {below : List Frame} {meth : Method} {c : Code} {H : Heap} {locs : List Loc} {cells slots : Nat} {Q : State → Prop}
variable {cc : ByteArray} {pc : Nat} {ls : Array Slot} {rest st0 : List Value} {D : va_G} {A : Nat → Prop} {H0 : Heap} {ad : Nat → Nat} {cI cR : ClassId} {mm m1 : Mem} {a : Array Value}
theorem w_cqN (hr : va_Run p l e R s m args below meth c H locs cells slots 0 0 (F0 m pc ls st0) rest (va_Qq (fun (r' : Option Nat) (u : Mem) => r' = (none : Option Nat).map ad ∧ u = m1) (KB D ad cI cR) (AA ad) a) (AA ad)) (hA : ∀ q, AA ad q → A q) (hS : va_S A H0 H locs)
    (kk : ∀ (H1 : Heap) (locs1 : List Loc), va_P D vwCl (cw ad cI cR m1) H1 → va_S A H0 H1 locs1 → W p l e R s m args below meth c H1 locs1 cells slots Q (F0 m (pc + 3) ls (.null :: rest))) : W p l e R s m args below meth c H locs cells slots Q (F0 m pc ls st0) :=
  w_cq (r := none) hr hA hS kk
theorem w_cqS {q : Nat} (hr : va_Run p l e R s m args below meth c H locs cells slots 0 0 (F0 m pc ls st0) rest (va_Qq (fun (r' : Option Nat) (u : Mem) => r' = (some q).map ad ∧ u = m1) (KB D ad cI cR) (AA ad) a) (AA ad)) (hA : ∀ q, AA ad q → A q) (hS : va_S A H0 H locs)
    (kk : ∀ (H1 : Heap) (locs1 : List Loc), va_P D vwCl (cw ad cI cR m1) H1 → va_S A H0 H1 locs1 → W p l e R s m args below meth c H1 locs1 cells slots Q (F0 m (pc + 3) ls (.ref (ad q) :: rest))) : W p l e R s m args below meth c H locs cells slots Q (F0 m pc ls st0) :=
  w_cq (r := some q) hr hA hS kk
end WROWS2
/-! the shapes of the codes -/
def sAC (ad : Nat → Nat) (cI cR : ClassId) (o : Nat) : Prop := o < 364 ∧ ∀ row, sh ad cI cR o row = .inr (6, [.ref (ad 1), .ref (ad 60), .ref (ad 119), .ref (ad 356)])
def sMod (ad : Nat → Nat) (cI cR : ClassId) (o : Nat) : Prop := o < 364 ∧ ∀ row, sh ad cI cR o row = .inr (7, [.ref (ad 360), .ref (ad 361), .ref (ad 362), .int (row 3), .ref (ad 363), .int (row 5), .int (row 6), .int (row 7), .int (row 8)])
theorem S_ac (ad : Nat → Nat) (cI cR : ClassId) : sAC ad cI cR 0 := ⟨by decide, fun _ => rfl⟩
theorem S_mod (ad : Nat → Nat) (cI cR : ClassId) : sMod ad cI cR 359 := ⟨by decide, fun _ => rfl⟩
theorem S_hist (ad : Nat → Nat) (cI cR : ClassId) : sHist ad cI cR 119 := ⟨by decide, fun _ => rfl⟩
theorem S_text (ad : Nat → Nat) (cI cR : ClassId) : sText ad cI cR 356 := ⟨by decide, fun _ => rfl, by decide, fun _ => rfl, by decide, fun _ => rfl⟩
theorem S_z (ad : Nat → Nat) (cI cR : ClassId) : sArr ad cI cR 360 395 := ⟨by decide, fun _ => rfl⟩
theorem S_aside (ad : Nat → Nat) (cI cR : ClassId) : sArr ad cI cR 361 395 := ⟨by decide, fun _ => rfl⟩
theorem S_mhist (ad : Nat → Nat) (cI cR : ClassId) : sArr ad cI cR 362 1580 := ⟨by decide, fun _ => rfl⟩
theorem S_mtext (ad : Nat → Nat) (cI cR : ClassId) : sArr ad cI cR 363 80 := ⟨by decide, fun _ => rfl⟩
theorem shS_req (ad : Nat → Nat) (cI cR : ClassId) (b : Nat) {o : Nat} (h : 27 ≤ o) (row : Nat → Int32) : shS ad cI cR b o row = .inr (2, [.int (row 0), .int (row 1), .int (row 2), .int (row 3), .int (row 4), .int (row 5), .int (row 6), .int (row 7), .int (row 8), .int (row 9), .int (row 10)]) := by
  unfold shS
  rw [if_neg (by omega), if_neg (by omega), if_neg (by omega), if_neg (by omega), if_neg (by omega), if_neg (by omega), if_neg (by omega), if_neg (by omega), if_neg (by omega)]
set_option maxRecDepth 20000 in
theorem S_req (ad : Nat → Nat) (cI cR : ClassId) {b : Nat} (hb : isSb b = true) {i : Nat} (hi : i < 32) : sReq ad cI cR (b + 27 + i) := by
  have h : b = 1 ∨ b = 60 ∨ b = 120 ∨ b = 179 ∨ b = 238 ∨ b = 297 := of_decide_eq_true hb
  refine ⟨by omega, fun row => ?_⟩
  have e : sh ad cI cR (b + 27 + i) row = shS ad cI cR b (27 + i) row := by
    rcases h with h | h | h | h | h | h <;> subst h <;> unfold sh
    · rw [if_neg (by omega), if_pos (by omega)]; congr 1; omega
    · rw [if_neg (by omega), if_neg (by omega), if_pos (by omega)]; congr 1; omega
    · rw [if_neg (by omega), if_neg (by omega), if_neg (by omega), if_neg (by omega), if_pos (by omega)]; congr 1; omega
    · rw [if_neg (by omega), if_neg (by omega), if_neg (by omega), if_neg (by omega), if_neg (by omega), if_pos (by omega)]; congr 1; omega
    · rw [if_neg (by omega), if_neg (by omega), if_neg (by omega), if_neg (by omega), if_neg (by omega), if_neg (by omega), if_pos (by omega)]; congr 1; omega
    · rw [if_neg (by omega), if_neg (by omega), if_neg (by omega), if_neg (by omega), if_neg (by omega), if_neg (by omega), if_neg (by omega), if_pos (by omega)]; congr 1; omega
  rw [e]
  exact shS_req ad cI cR b (by omega) row
set_option maxRecDepth 20000 in
theorem isSb_srv (ad : Nat → Nat) (cI cR : ClassId) {b : Nat} (hb : isSb b = true) : sSrv ad cI cR b := by
  have h : b = 1 ∨ b = 60 ∨ b = 120 ∨ b = 179 ∨ b = 238 ∨ b = 297 := of_decide_eq_true hb
  have hq := fun i hi => S_req ad cI cR hb (i := i) hi
  rcases h with h | h | h | h | h | h <;> subst h <;> exact ⟨by decide, fun _ => rfl, ⟨by decide, fun _ => rfl, by decide, fun _ => rfl⟩, ⟨by decide, fun _ => rfl, by decide, fun _ => rfl⟩, ⟨by decide, fun _ => rfl, ⟨by decide, fun _ => rfl, by decide, fun _ => rfl⟩, ⟨by decide, fun _ => rfl, by decide, fun _ => rfl⟩, ⟨by decide, fun _ => rfl, by decide, fun _ => rfl⟩⟩, ⟨by decide, fun _ => rfl, ⟨by decide, fun _ => rfl, by decide, fun _ => rfl⟩, ⟨by decide, fun _ => rfl, by decide, fun _ => rfl⟩, ⟨by decide, fun _ => rfl, by decide, fun _ => rfl⟩⟩, ⟨by decide, fun _ => rfl, ⟨by decide, fun _ => rfl, by decide, fun _ => rfl⟩, ⟨by decide, fun _ => rfl, by decide, fun _ => rfl⟩, ⟨by decide, fun _ => rfl, by decide, fun _ => rfl⟩⟩, ⟨by decide, fun _ => rfl, hq⟩⟩
theorem S_srv1 (ad : Nat → Nat) (cI cR : ClassId) : sSrv ad cI cR 1 := isSb_srv ad cI cR rfl
theorem S_srv60 (ad : Nat → Nat) (cI cR : ClassId) : sSrv ad cI cR 60 := isSb_srv ad cI cR rfl
theorem nI_code {c : Nat} (h : isSb c = true) : (nI c).toNatClampNeg = c := nI_clamp (by
  have h : c = 1 ∨ c = 60 ∨ c = 120 ∨ c = 179 ∨ c = 238 ∨ c = 297 := of_decide_eq_true h
  omega)
theorem hist_set0 (ad : Nat → Nat) {c : Nat} (h : isSb c = true) (row : Nat → Int32) : ([.ref (ad (row 0).toNatClampNeg), .ref (ad (row 1).toNatClampNeg), .ref (ad (row 2).toNatClampNeg), .ref (ad (row 3).toNatClampNeg), .int (row 4)] : List Value).set 0 (.ref (ad c)) = [.ref (ad ((upd row 0 (nI c)) 0).toNatClampNeg), .ref (ad ((upd row 0 (nI c)) 1).toNatClampNeg), .ref (ad ((upd row 0 (nI c)) 2).toNatClampNeg), .ref (ad ((upd row 0 (nI c)) 3).toNatClampNeg), .int ((upd row 0 (nI c)) 4)] := by
  simp [upd, nI_code h]
theorem hist_set1 (ad : Nat → Nat) {c : Nat} (h : isSb c = true) (row : Nat → Int32) : ([.ref (ad (row 0).toNatClampNeg), .ref (ad (row 1).toNatClampNeg), .ref (ad (row 2).toNatClampNeg), .ref (ad (row 3).toNatClampNeg), .int (row 4)] : List Value).set 1 (.ref (ad c)) = [.ref (ad ((upd row 1 (nI c)) 0).toNatClampNeg), .ref (ad ((upd row 1 (nI c)) 1).toNatClampNeg), .ref (ad ((upd row 1 (nI c)) 2).toNatClampNeg), .ref (ad ((upd row 1 (nI c)) 3).toNatClampNeg), .int ((upd row 1 (nI c)) 4)] := by
  simp [upd, nI_code h]
theorem hist_set2 (ad : Nat → Nat) {c : Nat} (h : isSb c = true) (row : Nat → Int32) : ([.ref (ad (row 0).toNatClampNeg), .ref (ad (row 1).toNatClampNeg), .ref (ad (row 2).toNatClampNeg), .ref (ad (row 3).toNatClampNeg), .int (row 4)] : List Value).set 2 (.ref (ad c)) = [.ref (ad ((upd row 2 (nI c)) 0).toNatClampNeg), .ref (ad ((upd row 2 (nI c)) 1).toNatClampNeg), .ref (ad ((upd row 2 (nI c)) 2).toNatClampNeg), .ref (ad ((upd row 2 (nI c)) 3).toNatClampNeg), .int ((upd row 2 (nI c)) 4)] := by
  simp [upd, nI_code h]
theorem hist_set3 (ad : Nat → Nat) {c : Nat} (h : isSb c = true) (row : Nat → Int32) : ([.ref (ad (row 0).toNatClampNeg), .ref (ad (row 1).toNatClampNeg), .ref (ad (row 2).toNatClampNeg), .ref (ad (row 3).toNatClampNeg), .int (row 4)] : List Value).set 3 (.ref (ad c)) = [.ref (ad ((upd row 3 (nI c)) 0).toNatClampNeg), .ref (ad ((upd row 3 (nI c)) 1).toNatClampNeg), .ref (ad ((upd row 3 (nI c)) 2).toNatClampNeg), .ref (ad ((upd row 3 (nI c)) 3).toNatClampNeg), .int ((upd row 3 (nI c)) 4)] := by
  simp [upd, nI_code h]
