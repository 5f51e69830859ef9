/-! The layer of this proof: a judgement K_ over pictures (world, locals, stack), contracts Ct (returns) and Cxt (returns or throws), and the kit's rows said in them. Numbers are integers: iI z is the int z, jL z the long z. -/
def iI (z : Int) : Int32 := Int32.ofInt z
def jL (z : Int) : Int64 := Int64.ofInt z
def aI (f : Nat → Int) : Nat → Int32 := fun k => iI (f k)
def aL (f : Nat → Int) : Nat → Int64 := fun k => jL (f k)
def upI (f : Nat → Int) (k : Nat) (v : Int) : Nat → Int := fun j => if j = k then v else f j
abbrev KG : Type := va_G × (ClassId × ClassId × ClassId × ClassId) × (Nat × Nat × Nat) × (Nat → Nat) × (Nat → Nat) × (Nat → Nat)
abbrev g_D (G : KG) : va_G := G.1
abbrev g_I (G : KG) : ClassId := G.2.1.1
abbrev g_J (G : KG) : ClassId := G.2.1.2.1
abbrev g_C (G : KG) : ClassId := G.2.1.2.2.1
abbrev g_Z (G : KG) : ClassId := G.2.1.2.2.2
abbrev g_tp (G : KG) : Nat := G.2.2.1.1
abbrev g_tg (G : KG) : Nat := G.2.2.1.2.1
abbrev g_tw (G : KG) : Nat := G.2.2.1.2.2
abbrev g_ad (G : KG) : Nat → Nat := G.2.2.2.1
abbrev g_sk (G : KG) : Nat → Nat := G.2.2.2.2.1
abbrev g_sv (G : KG) : Nat → Nat := G.2.2.2.2.2
def g_tys (G : KG) : List (ClassId × FieldType) := [(g_I G, .int), (g_J G, .long), (g_C G, .char)]
/-- the small primes, as the class has them -/
def spL : List Int := [2, 3, 5, 7, 11, 13, 17, 19, 23, 29, 31, 37, 41, 43, 47, 53, 59, 61, 67, 71, 73, 79, 83, 89, 97, 101, 103, 107, 109, 113, 127, 131, 137, 139, 149, 151, 157, 163, 167, 173, 179, 181, 191, 193, 197, 199, 211, 223, 227, 229, 233, 239, 241, 251, 257, 263, 269, 271, 277, 281, 283, 293, 307, 311, 313]
def spA (k : Nat) : Int := spL.getD k 0
def gpL : List Int := [1, 1000000, 1000000000000, 1000000000000000000]
def gpA (k : Nat) : Int := gpL.getD k 0
def wdN : List String := ["BOUND", "STRIKE", "SPARE", "AGAIN"]
def wdF : List (String × String × String × List Int32) := [("StruckCounts$Word", "lowest", "I", [1, 2, 2, 1]), ("StruckCounts$Word", "highest", "I", [99999, 9, 9, 0]), ("StruckCounts$Word", "needsNumber", "Z", [1, 0, 0, 0])]
def wdLen : List Nat := [5, 6, 5, 5]
def wdByt : List (List Int32) := [[98, 111, 117, 110, 100], [115, 116, 114, 105, 107, 101], [115, 112, 97, 114, 101], [97, 103, 97, 105, 110]]
/-- the strings of the thrown exceptions: their places in the class's file, their texts are of no matter -/
def exT : List (Nat × String) := [(181, "the bound is not 1 to 99999"), (284, "no prime can come"), (190, "the number is not 0 to 99999"), (198, "no state is remembered"), (151, "there is no such number to tell"), (281, "there is no such quotient"), (169, "the rest is not 0 to 3"), (174, "k is negative")]
def nestF : List (String × Nat × String × String × String × String) := [("StruckCounts", 123, "StruckCounts$Tally", "size", "I", "StruckCounts"), ("StruckCounts", 103, "StruckCounts$Board", "bound", "I", "StruckCounts"), ("StruckCounts$Store", 49, "StruckCounts$Board", "bound", "I", "StruckCounts"), ("StruckCounts", 138, "StruckCounts$Board", "came", "I", "StruckCounts"), ("StruckCounts$Store", 54, "StruckCounts$Board", "came", "I", "StruckCounts"), ("StruckCounts", 128, "StruckCounts$Board", "struck", "J", "StruckCounts"), ("StruckCounts$Store", 57, "StruckCounts$Board", "struck", "J", "StruckCounts"), ("StruckCounts", 195, "StruckCounts$Store", "remembered", "I", "StruckCounts"), ("StruckCounts$Primes", 19, "StruckCounts", "SMALL_PRIMES", "[I", "StruckCounts"), ("StruckCounts$Board", 58, "StruckCounts", "SMALL_PRIMES", "[I", "StruckCounts")]
def nestM : List (String × Nat × MethodName × String) := [("StruckCounts", 9, ⟨"StruckCounts$Text", "<init>", "()V"⟩, "StruckCounts"), ("StruckCounts$Board", 11, ⟨"StruckCounts$Tally", "<init>", "()V"⟩, "StruckCounts"), ("StruckCounts", 25, ⟨"StruckCounts$Store", "<init>", "()V"⟩, "StruckCounts"), ("StruckCounts$Store", 45, ⟨"StruckCounts", "outside", "(III)Z"⟩, "StruckCounts"), ("StruckCounts$Tally", 48, ⟨"StruckCounts", "outside", "(III)Z"⟩, "StruckCounts")]
def exC : List String := ["java/lang/IllegalArgumentException", "java/lang/IllegalStateException", "java/lang/IndexOutOfBoundsException"]
def exD : List MethodName := [⟨"java/lang/RuntimeException", "<init>", "(Ljava/lang/String;)V"⟩, ⟨"java/lang/Exception", "<init>", "(Ljava/lang/String;)V"⟩, ⟨"java/lang/Throwable", "<init>", "(Ljava/lang/String;)V"⟩]
def exN : List (String × String) := [("java/lang/IllegalArgumentException", "java/lang/IllegalStateException"), ("java/lang/IllegalArgumentException", "java/lang/IndexOutOfBoundsException"), ("java/lang/IllegalStateException", "java/lang/IllegalArgumentException"), ("java/lang/IllegalStateException", "java/lang/IndexOutOfBoundsException"), ("java/lang/IndexOutOfBoundsException", "java/lang/IllegalArgumentException"), ("java/lang/IndexOutOfBoundsException", "java/lang/IllegalStateException")]
/-- what the program's statics hold; none of their cells is in A -/
def St (G : KG) (A : Nat → Prop) (U : State) (H : Heap) : Prop :=
  (va_Z "StruckCounts" "SMALL_PRIMES" "[I" (.ref (g_tp G)) A U H ∧ va_T .int (g_tp G) 65 (fun j => .int (iI (spA j))) A U H) ∧
  (g_ad G 0 ≤ 260 ∧ va_T .int (g_tg G) (g_ad G 0) (fun j => .int (iI ((g_sk G j : Nat) : Int))) A U H) ∧
  (True ∧ True) ∧
  (True ∧ True) ∧
  True ∧ True ∧
  (vx_Zq Bundle.tN "UNASSIGNED_STACK" Bundle.steD A U H ∧ vx_Zq Bundle.tN "SUPPRESSED_SENTINEL" Bundle.listD A U H) ∧
  (∀ q ∈ exT, ∃ sa, vk_R "StruckCounts" q.1 q.2 sa U) ∧
  (∀ q ∈ nestF, va_Nw (.fieldLinkNest q.1 q.2.1 q.2.2.1 q.2.2.2.1 q.2.2.2.2.1 q.2.2.2.2.2) U) ∧ (∀ q ∈ nestM, va_Nw (.methodLinkNest q.1 q.2.1 q.2.2.1 q.2.2.2) U) ∧ (∀ q ∈ exC, va_Nw (.castable q q) U) ∧ (∀ q ∈ exN, va_Nc q.1 q.2 U) ∧ (∀ q ∈ exD, va_Nw (.declares q) U) ∧ True
theorem St.moved {G : KG} {A : Nat → Prop} {u U : State} {H : Heap} (hw : u.WarmedH U.vm) (h : St G A u H) : St G A U H :=
  have hv := hw.alike
  ⟨⟨h.1.1.moved hv, h.1.2.moved hv⟩, ⟨h.2.1.1, h.2.1.2.moved hv⟩, ⟨trivial, trivial⟩, ⟨trivial, trivial⟩, trivial, trivial, ⟨h.2.2.2.2.2.2.1.1.moved hv, h.2.2.2.2.2.2.1.2.moved hv⟩, fun q hq => (h.2.2.2.2.2.2.2.1 q hq).elim fun sa z => ⟨sa, z.warm hw⟩, fun q hq => (h.2.2.2.2.2.2.2.2.1 q hq).warmF hw, fun q hq => (h.2.2.2.2.2.2.2.2.2.1 q hq).warmM hw, fun q hq => (h.2.2.2.2.2.2.2.2.2.2.1 q hq).warmC hw, fun q hq => (h.2.2.2.2.2.2.2.2.2.2.2.1 q hq).moved hv, fun q hq => (h.2.2.2.2.2.2.2.2.2.2.2.2.1 q hq).warmD hw, trivial⟩
theorem St.samevm {G : KG} {A : Nat → Prop} {u U : State} {H : Heap} (hv : U.vm = u.vm) (h : St G A u H) : St G A U H :=
  have ha : u.vm.Alike U.vm := by rw [hv]; exact Vm.Alike.refl u.vm
  ⟨⟨h.1.1.moved ha, h.1.2.moved ha⟩, ⟨h.2.1.1, h.2.1.2.moved ha⟩, ⟨trivial, trivial⟩, ⟨trivial, trivial⟩, trivial, trivial, ⟨h.2.2.2.2.2.2.1.1.moved ha, h.2.2.2.2.2.2.1.2.moved ha⟩, fun q hq => (h.2.2.2.2.2.2.2.1 q hq).elim fun sa z => ⟨sa, z.same hv⟩, fun q hq => (h.2.2.2.2.2.2.2.2.1 q hq).same rfl hv.symm, fun q hq => (h.2.2.2.2.2.2.2.2.2.1 q hq).same rfl hv.symm, fun q hq => (h.2.2.2.2.2.2.2.2.2.2.1 q hq).same rfl hv.symm, fun q hq => (h.2.2.2.2.2.2.2.2.2.2.2.1 q hq).moved ha, fun q hq => (h.2.2.2.2.2.2.2.2.2.2.2.2.1 q hq).same rfl hv.symm, trivial⟩
theorem St.kept {G : KG} {A : Nat → Prop} {U : State} {H H1 : Heap} (h : St G A U H) (hq : ∀ a : Nat, a < H.size → ¬ A a → H1[a]? = H[a]?) : St G A U H1 :=
  ⟨⟨h.1.1.kept hq, h.1.2.kept hq⟩, ⟨h.2.1.1, h.2.1.2.kept hq⟩, ⟨trivial, trivial⟩, ⟨trivial, trivial⟩, trivial, trivial, ⟨h.2.2.2.2.2.2.1.1.kept hq, h.2.2.2.2.2.2.1.2.kept hq⟩, h.2.2.2.2.2.2.2.1, h.2.2.2.2.2.2.2.2.1, h.2.2.2.2.2.2.2.2.2.1, h.2.2.2.2.2.2.2.2.2.2.1, h.2.2.2.2.2.2.2.2.2.2.2.1, h.2.2.2.2.2.2.2.2.2.2.2.2.1, trivial⟩
theorem St.narrow {G : KG} {A B : Nat → Prop} {U : State} {H : Heap} (h : St G A U H) (hq : ∀ q, B q → A q) : St G B U H :=
  ⟨⟨h.1.1.narrow hq, h.1.2.narrow hq⟩, ⟨h.2.1.1, h.2.1.2.narrow hq⟩, ⟨trivial, trivial⟩, ⟨trivial, trivial⟩, trivial, trivial, ⟨h.2.2.2.2.2.2.1.1.narrow hq, h.2.2.2.2.2.2.1.2.narrow hq⟩, h.2.2.2.2.2.2.2.1, h.2.2.2.2.2.2.2.2.1, h.2.2.2.2.2.2.2.2.2.1, h.2.2.2.2.2.2.2.2.2.2.1, h.2.2.2.2.2.2.2.2.2.2.2.1, h.2.2.2.2.2.2.2.2.2.2.2.2.1, trivial⟩
/-- where a body stands: program, launch, env, room, start, method, args, frames below, method, code, goal, own cells, locals -/
abbrev KX : Type := Program × Launch × Env × Room × State × MethodId × Array Value × List Frame × Method × Code × (State → Prop) × (Nat → Prop) × Nat × KG
abbrev x_p (X : KX) : Program := X.1
abbrev x_l (X : KX) : Launch := X.2.1
abbrev x_e (X : KX) : Env := X.2.2.1
abbrev x_R (X : KX) : Room := X.2.2.2.1
abbrev x_s (X : KX) : State := X.2.2.2.2.1
abbrev x_m (X : KX) : MethodId := X.2.2.2.2.2.1
abbrev x_a (X : KX) : Array Value := X.2.2.2.2.2.2.1
abbrev x_b (X : KX) : List Frame := X.2.2.2.2.2.2.2.1
abbrev x_M (X : KX) : Method := X.2.2.2.2.2.2.2.2.1
abbrev x_c (X : KX) : Code := X.2.2.2.2.2.2.2.2.2.1
abbrev x_Q (X : KX) : State → Prop := X.2.2.2.2.2.2.2.2.2.2.1
abbrev x_A (X : KX) : Nat → Prop := X.2.2.2.2.2.2.2.2.2.2.2.1
abbrev x_n (X : KX) : Nat := X.2.2.2.2.2.2.2.2.2.2.2.2.1
abbrev x_G (X : KX) : KG := X.2.2.2.2.2.2.2.2.2.2.2.2.2
/-- W at a picture -/
def K_ (X : KX) (k j : Nat) (ws : va_W) (pc : Nat) (lo : List (Nat × Value)) (st : List Value) : Prop :=
  ∀ (H : Heap) (locs : List Loc) (ls : Array Slot), va_P (g_D (x_G X)) vwCl ws H → va_D (x_A X) ws → va_S (x_A X) (x_s X).heap H locs → lv_has ls (x_n X) lo →
    W (x_p X) (x_l X) (x_e X) (x_R X) (x_s X) (x_m X) (x_a X) (x_b X) (x_M X) (x_c X) H locs k j (x_Q X) (F0 (x_m X) pc ls st)
/-- what a body knows -/
def Cx (X : KX) (cc : ByteArray) (own : String) (Ts : List Cond) (ret : Option FieldType) (n : Nat) (rm : Room) : Prop :=
  (x_p X).tables.exec = Jvm.exec ∧ (x_c X).code = cc ∧ (x_s X).vm.findClass own = some (x_m X).cls ∧ (∀ w ∈ Ts, w.before (x_a X) (x_s X) = true) ∧ (∀ q : Nat, (x_s X).heap.size ≤ q → x_A X q) ∧
  (x_c X).maxLocals = x_n X ∧ va_K (g_D (x_G X)) vwCl (g_tys (x_G X)) (x_s X) ∧ St (x_G X) (x_A X) (x_s X) (x_s X).heap ∧ (x_M X).sig.returnType = ret ∧ (x_M X).locks = false ∧ x_n X = n ∧ x_R X = rm
section CX
variable {X : KX} {cc : ByteArray} {own : String} {Ts : List Cond} {ret : Option FieldType} {n : Nat} {rm : Room}
theorem Cx.e (C : Cx X cc own Ts ret n rm) : (x_p X).tables.exec = Jvm.exec := C.1
theorem Cx.b (C : Cx X cc own Ts ret n rm) : (x_c X).code = cc := C.2.1
theorem Cx.o (C : Cx X cc own Ts ret n rm) : (x_s X).vm.findClass own = some (x_m X).cls := C.2.2.1
theorem Cx.w (C : Cx X cc own Ts ret n rm) : ∀ w ∈ Ts, w.before (x_a X) (x_s X) = true := C.2.2.2.1
theorem Cx.at (C : Cx X cc own Ts ret n rm) (i : Nat) {w : Cond} (h : Ts[i]? = some w) : w.before (x_a X) (x_s X) = true := C.2.2.2.1 w (List.mem_of_getElem? h)
theorem Cx.A (C : Cx X cc own Ts ret n rm) : ∀ q : Nat, (x_s X).heap.size ≤ q → x_A X q := C.2.2.2.2.1
theorem Cx.nn (C : Cx X cc own Ts ret n rm) : (x_c X).maxLocals = x_n X := C.2.2.2.2.2.1
theorem Cx.K (C : Cx X cc own Ts ret n rm) : va_K (g_D (x_G X)) vwCl (g_tys (x_G X)) (x_s X) := C.2.2.2.2.2.2.1
theorem Cx.S (C : Cx X cc own Ts ret n rm) : St (x_G X) (x_A X) (x_s X) (x_s X).heap := C.2.2.2.2.2.2.2.1
theorem Cx.r (C : Cx X cc own Ts ret n rm) : (x_M X).sig.returnType = ret := C.2.2.2.2.2.2.2.2.1
theorem Cx.l (C : Cx X cc own Ts ret n rm) : (x_M X).locks = false := C.2.2.2.2.2.2.2.2.2.1
theorem Cx.N (C : Cx X cc own Ts ret n rm) : x_n X = n := C.2.2.2.2.2.2.2.2.2.2.1
theorem Cx.R (C : Cx X cc own Ts ret n rm) : x_R X = rm := C.2.2.2.2.2.2.2.2.2.2.2
theorem Cx.nF (C : Cx X cc own Ts ret n rm) (i : Nat) {q : String × Nat × String × String × String × String} (h : nestF[i]? = some q) : va_Nw (.fieldLinkNest q.1 q.2.1 q.2.2.1 q.2.2.2.1 q.2.2.2.2.1 q.2.2.2.2.2) (x_s X) := C.S.2.2.2.2.2.2.2.2.1 q (List.mem_of_getElem? h)
theorem Cx.nM (C : Cx X cc own Ts ret n rm) (i : Nat) {q : String × Nat × MethodName × String} (h : nestM[i]? = some q) : va_Nw (.methodLinkNest q.1 q.2.1 q.2.2.1 q.2.2.2) (x_s X) := C.S.2.2.2.2.2.2.2.2.2.1 q (List.mem_of_getElem? h)
theorem Cx.F (C : Cx X cc own Ts ret n rm) : CallFix (x_p X) (x_m X) (x_c X) cc (x_n X) (x_s X) (x_a X) Ts own := ⟨C.e, C.b, C.nn, C.o, C.w⟩
end CX
/-- what a method may leave: the answer and the world, out of u -/
def Qg (G : KG) {S : Type} (ok : S → Prop) (rv : S → Option Value) (w1 : S → va_W) (A : Nat → Prop) : Array Value → State → Outcome → State → Prop :=
  fun _ st oc t => (∃ u : S, oc = .returned (rv u) ∧ ok u ∧ va_P (g_D G) vwCl (w1 u) t.heap ∧ va_D A (w1 u)) ∧ va_F A st t
def Pg (G : KG) (av : List Value) (w : va_W) (sz : Nat) : Array Value → State → Prop :=
  va_Pc av (fun U => U.heap.size = sz ∧ va_P (g_D G) vwCl w U.heap ∧ va_K (g_D G) vwCl (g_tys G) U ∧ va_D (fun _ => True) w ∧ St G (va_A w sz) U U.heap)
/-- a contract: from the world w with the arguments av the method returns rv u and leaves the world w1 u, for some u with ok u -/
def Ct (l : Launch) (G : KG) (y : MethodName) (ws : List Cond) (rm : Room) (av : List Value) (w : va_W) {S : Type} (ok : S → Prop) (rv : S → Option Value) (w1 : S → va_W) : Prop :=
  ∀ sz : Nat, Met l y ws rm (Pg G av w sz) (Qg G ok rv w1 (va_A w sz)) rm.cells rm.slots (va_A w sz)
/-- .. or throws an exception of the kind ex v, and leaves the world wx v -/
def XCg (G : KG) {V : Type} (okx : V → Prop) (ex : V → String) (wx : V → va_W) (A : Nat → Prop) : String → State → State → Prop :=
  fun E st t => (∃ v : V, E = ex v ∧ okx v ∧ va_P (g_D G) vwCl (wx v) t.heap ∧ va_D A (wx v)) ∧ va_F A st t
def Cxt (l : Launch) (G : KG) (y : MethodName) (ws : List Cond) (rm : Room) (av : List Value) (w : va_W) {S V : Type} (ok : S → Prop) (rv : S → Option Value) (w1 : S → va_W) (okx : V → Prop) (ex : V → String) (wx : V → va_W) : Prop :=
  ∀ sz : Nat, vx_Met l y ws rm (Pg G av w sz) (Qg G ok rv w1 (va_A w sz)) (XCg G okx ex wx (va_A w sz)) rm.cells rm.slots (va_A w sz)
/-- what a return owes: the goal out of MQ -/
def Ret (X : KX) {S : Type} (ok : S → Prop) (rv : S → Option Value) (w1 : S → va_W) : Prop :=
  ∀ (H : Heap) (locs : List Loc) (k j : Nat) (g : JFrame), k ≤ (x_R X).cells → j ≤ (x_R X).slots →
    W (x_p X) (x_l X) (x_e X) (x_R X) (x_s X) (x_m X) (x_a X) (x_b X) (x_M X) (x_c X) H locs (x_R X).cells (x_R X).slots (MQ (x_b X) (Qg (x_G X) ok rv w1 (x_A X)) (x_a X) (x_s X) (x_R X).cells (x_R X).slots (x_A X)) g →
    W (x_p X) (x_l X) (x_e X) (x_R X) (x_s X) (x_m X) (x_a X) (x_b X) (x_M X) (x_c X) H locs k j (x_Q X) g
def rmD (d mc ms : Nat) : Room := { frames := d, cells := mc, slots := ms, locals := 36 * d }
theorem Pg.blind {G : KG} {av : List Value} {w : va_W} {sz : Nat} : FrameBlind (Pg G av w sz) := fun a U g mk q => by
  obtain ⟨q0, q1, qP, qK, qD, qS⟩ := q
  exact ⟨q0, q1, qP, va_K.moved (u := U) (U := U.calling g mk a) (Vm.Alike.refl U.vm) qK, qD, qS.samevm rfl⟩
theorem Ct.of {l : Launch} {G : KG} {y : MethodName} {ws ws' : List Cond} {rm : Room} {av : List Value} {w : va_W} {S : Type} {ok : S → Prop} {rv : S → Option Value} {w1 : S → va_W} {cc : ByteArray} {maxL : Nat} {ret : Option FieldType}
    (hy : plainName y.cls = true) (hw : ws = Cond.code y cc maxL ret :: ws') (hL : (lg_sl av).length ≤ maxL)
    (body : ∀ X : KX, Cx X cc y.cls ws ret maxL rm → x_G X = G → x_l X = l → (x_M X).name = y.name → Ret X ok rv w1 → K_ X 0 0 w 0 (lv_args 0 av) []) : Ct l G y ws rm av w ok rv w1 := by
  intro sz
  refine Met.ofW (cc := cc) (maxL := maxL) (ret := ret) hy hw ?_
  intro p e s m args below meth c s₁ B hml hv
  obtain ⟨rfl, hsz, hP, hK, hD0, hS0⟩ := hv
  subst hsz
  have hts := atoms_spec (ws := ws) B.pre
  have hown : s.vm.findClass y.cls = some m.cls := findClass_of_methodNamed B.named
  have hnm := (name_of_methodNamed B.named B.method).1
  have hD := hD0.self (sz := s.heap.size)
  have hl := lv_entry av (n := maxL) hL
  rw [lg_entry_eq]
  exact body (p, l, e, rm, s, m, av.toArray, below, meth, c, MQ below (Qg G ok rv w1 (va_A w s.heap.size)) av.toArray s rm.cells rm.slots (va_A w s.heap.size), va_A w s.heap.size, maxL, G)
    ⟨B.exec, B.bytes, hown, hts, fun q h => Or.inr h, hml, hK, hS0, B.returns, B.notSynchronized, rfl, rfl⟩ rfl rfl hnm (fun H locs k j g h1 h2 kk => W.widen h1 h2 kk) s.heap [] _ hP hD va_S.rf hl
theorem Cxt.of {l : Launch} {G : KG} {y : MethodName} {ws ws' : List Cond} {rm : Room} {av : List Value} {w : va_W} {S V : Type} {ok : S → Prop} {rv : S → Option Value} {w1 : S → va_W} {okx : V → Prop} {ex : V → String} {wx : V → va_W} {cc : ByteArray} {maxL : Nat} {ret : Option FieldType}
    (hy : plainName y.cls = true) (hw : ws = Cond.code y cc maxL ret :: ws') (hL : (lg_sl av).length ≤ maxL)
    (body : ∀ X : KX, Cx X cc y.cls ws ret maxL rm → x_G X = G → x_l X = l → (x_M X).name = y.name → Ret X ok rv w1 → x_Q X = vx_MQ (x_b X) (Qg G ok rv w1 (x_A X)) (XCg G okx ex wx (x_A X)) (x_a X) (x_s X) rm.cells rm.slots (x_A X) → (∀ x ∈ (x_c X).exceptionTable.toList, False) → K_ X 0 0 w 0 (lv_args 0 av) []) : Cxt l G y ws rm av w ok rv w1 okx ex wx := by
  intro sz
  refine vx_ofW (cc := cc) (maxL := maxL) (ret := ret) hy hw ?_
  intro p e s m args below meth c s₁ B hml htab hv
  obtain ⟨rfl, hsz, hP, hK, hD0, hS0⟩ := hv
  subst hsz
  have hts := atoms_spec (ws := ws) B.pre
  have hown : s.vm.findClass y.cls = some m.cls := findClass_of_methodNamed B.named
  have hnm := (name_of_methodNamed B.named B.method).1
  have hD := hD0.self (sz := s.heap.size)
  have hl := lv_entry av (n := maxL) hL
  rw [lg_entry_eq]
  exact body (p, l, e, rm, s, m, av.toArray, below, meth, c, vx_MQ below (Qg G ok rv w1 (va_A w s.heap.size)) (XCg G okx ex wx (va_A w s.heap.size)) av.toArray s rm.cells rm.slots (va_A w s.heap.size), va_A w s.heap.size, maxL, G)
    ⟨B.exec, B.bytes, hown, hts, fun q h => Or.inr h, hml, hK, hS0, B.returns, B.notSynchronized, rfl, rfl⟩ rfl rfl hnm (fun H locs k j g h1 h2 kk => vx_ret (W.widen h1 h2 kk)) rfl htab s.heap [] _ hP hD va_S.rf hl
