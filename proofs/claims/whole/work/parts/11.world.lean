/-! the world as functions: of each cell its shape, its whole numbers, its references (both by place) -/
def zks (ci : Nat) : List Bool := match ci with
  | 0 => [false, false, false, true, true, true, true, true, true, true, true, true]
  | 1 => [false, true]
  | 2 => [true, true, true, false, false, false, true, true, false]
  | 3 => [true, true, true, true, true, false]
  | 4 => [false, false, false, false, true, false, false, true, true]
  | 5 => [false, false]
  | 6 => [false, false, false, false, false, false, true, true, true]
  | _ => [true, true, true, true, true, false, false, false, false, false, false, false, false, false, false, false, false, false, false, false, false, false, false, false, false, false, true, false, false, false, false, false, false]
def zrf (E : zEnv) (o : Option Nat) : Value := va_rf (o.map (fun k => zb E + k))
def zfs (E : zEnv) : List Bool → (Nat → Int) → (Nat → Option Nat) → Nat → List Value
  | [], _, _, _ => []
  | b :: t, f, g, j => (match b with | true => .int (iI (f j)) | false => zrf E (g j)) :: zfs E t f g (j + 1)
def zcell (E : zEnv) (sh : Nat → Nat × Nat) (I : Nat → Nat → Int) (P : Nat → Nat → Option Nat) (k : Nat) : va_E := match sh k with
  | (0, ci) => zO ci (zfs E (zks ci) (I k) (P k) 0)
  | (1, n) => zI E n (I k)
  | (2, n) => zZ E n (I k)
  | (t + 3, n) => zR E (t + 2) n (fun j => (P k j).map (fun q => zb E + q))
def zw (E : zEnv) (n : Nat) (sh : Nat → Nat × Nat) (I : Nat → Nat → Int) (P : Nat → Nat → Option Nat) : List va_E := (List.range n).map (zcell E sh I P)
def zup (I : Nat → Nat → Int) (k j : Nat) (x : Int) : Nat → Nat → Int := fun a b => if a = k ∧ b = j then x else I a b
def zpu (P : Nat → Nat → Option Nat) (k j : Nat) (x : Option Nat) : Nat → Nat → Option Nat := fun a b => if a = k ∧ b = j then x else P a b
def zsh (sh : Nat → Nat × Nat) (k : Nat) (x : Nat × Nat) : Nat → Nat × Nat := fun a => if a = k then x else sh a
def zcl (I : Nat → Nat → Int) (k : Nat) : Nat → Nat → Int := fun a b => if a = k then 0 else I a b
def zcp (P : Nat → Nat → Option Nat) (k : Nat) : Nat → Nat → Option Nat := fun a b => if a = k then none else P a b
theorem zfs_cons (E : zEnv) (b : Bool) (t : List Bool) (f : Nat → Int) (g : Nat → Option Nat) (j : Nat) : zfs E (b :: t) f g j = (match b with | true => .int (iI (f j)) | false => zrf E (g j)) :: zfs E t f g (j + 1) := rfl
theorem zfs_len (E : zEnv) : ∀ (ks : List Bool) (f : Nat → Int) (g : Nat → Option Nat) (j : Nat), (zfs E ks f g j).length = ks.length
  | [], _, _, _ => rfl
  | b :: t, f, g, j => by rw [zfs_cons, List.length_cons, zfs_len E t f g (j + 1), List.length_cons]
theorem zfs_get (E : zEnv) : ∀ (ks : List Bool) (f : Nat → Int) (g : Nat → Option Nat) (j k : Nat) (b : Bool), ks[k]? = some b → (zfs E ks f g j)[k]? = some (match b with | true => .int (iI (f (j + k))) | false => zrf E (g (j + k)))
  | [], _, _, _, k, b, h => by simp at h
  | b :: t, f, g, j, 0, b', h => by simp at h; subst h; simp [zfs]
  | b :: t, f, g, j, k + 1, b', h => by
    rw [List.getElem?_cons_succ] at h
    rw [zfs_cons, List.getElem?_cons_succ, zfs_get E t f g (j + 1) k b' h, show j + 1 + k = j + (k + 1) by omega]
theorem zfs_cong (E : zEnv) : ∀ (ks : List Bool) (f f' : Nat → Int) (g g' : Nat → Option Nat) (j : Nat), (∀ q, j ≤ q → f q = f' q) → (∀ q, j ≤ q → g q = g' q) → zfs E ks f g j = zfs E ks f' g' j
  | [], _, _, _, _, _, _, _ => rfl
  | b :: t, f, f', g, g', j, h1, h2 => by
    rw [zfs_cons, zfs_cons, zfs_cong E t f f' g g' (j + 1) (fun q hq => h1 q (by omega)) (fun q hq => h2 q (by omega)), h1 j (by omega), h2 j (by omega)]
theorem zfs_setI (E : zEnv) (x : Int) : ∀ (ks : List Bool) (f : Nat → Int) (g : Nat → Option Nat) (j k : Nat), ks[k]? = some true → (zfs E ks f g j).set k (.int (iI x)) = zfs E ks (zu f (j + k) x) g j
  | [], _, _, _, k, h => by simp at h
  | b :: t, f, g, j, 0, h => by
    simp at h
    subst h
    rw [zfs_cons, zfs_cons, List.set_cons_zero]
    rw [zfs_cong E t f (zu f (j + 0) x) g g (j + 1) (fun q hq => by simp [zu, show ¬ q = j by omega]) (fun _ _ => rfl)]
    simp [zu]
  | b :: t, f, g, j, k + 1, h => by
    rw [List.getElem?_cons_succ] at h
    rw [zfs_cons, zfs_cons, List.set_cons_succ, zfs_setI E x t f g (j + 1) k h, show j + 1 + k = j + (k + 1) by omega]
    simp [zu]
theorem zfs_setP (E : zEnv) (x : Option Nat) : ∀ (ks : List Bool) (f : Nat → Int) (g : Nat → Option Nat) (j k : Nat), ks[k]? = some false → (zfs E ks f g j).set k (zrf E x) = zfs E ks f (fun q => if q = j + k then x else g q) j
  | [], _, _, _, k, h => by simp at h
  | b :: t, f, g, j, 0, h => by
    simp at h
    subst h
    rw [zfs_cons, zfs_cons, List.set_cons_zero]
    rw [zfs_cong E t f f g (fun q => if q = j + 0 then x else g q) (j + 1) (fun _ _ => rfl) (fun q hq => by simp [show ¬ q = j by omega])]
    simp
  | b :: t, f, g, j, k + 1, h => by
    rw [List.getElem?_cons_succ] at h
    rw [zfs_cons, zfs_cons, List.set_cons_succ, zfs_setP E x t f g (j + 1) k h, show j + 1 + k = j + (k + 1) by omega]
    simp
section ZW
variable {E : zEnv} {n : Nat} {sh : Nat → Nat × Nat} {I : Nat → Nat → Int} {P : Nat → Nat → Option Nat}
theorem zw_len : (zw E n sh I P).length = n := by simp [zw]
theorem zw_get {k : Nat} (h : k < n) : (zw E n sh I P)[k]? = some (zcell E sh I P k) := by simp [zw, h]
theorem zw_O {k ci : Nat} (h : k < n) (hs : sh k = (0, ci)) : (zw E n sh I P)[k]? = some (zO ci (zfs E (zks ci) (I k) (P k) 0)) := by rw [zw_get h]; unfold zcell; rw [hs]
theorem zw_I {k m : Nat} (h : k < n) (hs : sh k = (1, m)) : (zw E n sh I P)[k]? = some (zI E m (I k)) := by rw [zw_get h]; unfold zcell; rw [hs]
theorem zw_Z {k m : Nat} (h : k < n) (hs : sh k = (2, m)) : (zw E n sh I P)[k]? = some (zZ E m (I k)) := by rw [zw_get h]; unfold zcell; rw [hs]
theorem zw_R {k t m : Nat} (h : k < n) (hs : sh k = (t + 3, m)) : (zw E n sh I P)[k]? = some (zR E (t + 2) m (fun j => (P k j).map (fun q => zb E + q))) := by rw [zw_get h]; unfold zcell; rw [hs]
theorem zw_ext {ws : List va_E} {n' : Nat} {sh' : Nat → Nat × Nat} {I' : Nat → Nat → Int} {P' : Nat → Nat → Option Nat} (hl : ws.length = n') (h : ∀ k, k < n' → ws[k]? = some (zcell E sh' I' P' k)) : ws = zw E n' sh' I' P' := by
  apply List.ext_getElem?
  intro k
  by_cases hk : k < n'
  · rw [h k hk, zw_get hk]
  · rw [List.getElem?_eq_none (by omega), List.getElem?_eq_none (by rw [zw_len]; omega)]
theorem zw_set {k : Nat} {e : va_E} {I' : Nat → Nat → Int} {P' : Nat → Nat → Option Nat} (h : k < n) (he : e = zcell E sh I' P' k) (hI : ∀ a, a ≠ k → I' a = I a) (hP : ∀ a, a ≠ k → P' a = P a) : (zw E n sh I P).set k e = zw E n sh I' P' := by
  refine zw_ext (by rw [List.length_set, zw_len]) (fun a ha => ?_)
  by_cases hak : a = k
  · subst hak
    rw [List.getElem?_set_self (by rw [zw_len]; exact ha), he]
  · rw [List.getElem?_set_ne (Ne.symm hak), zw_get ha]
    unfold zcell
    rw [hI a hak, hP a hak]
theorem zup_ne {k j a : Nat} {x : Int} (h : a ≠ k) : zup I k j x a = I a := by funext b; simp [zup, h]
theorem zup_eq {k j : Nat} {x : Int} : zup I k j x k = zu (I k) j x := by funext b; simp [zup, zu]
theorem zpu_ne {k j a : Nat} {x : Option Nat} (h : a ≠ k) : zpu P k j x a = P a := by funext b; simp [zpu, h]
theorem zpu_eq {k j : Nat} {x : Option Nat} : zpu P k j x k = fun b => if b = j then x else P k b := by funext b; simp [zpu]
theorem zw_setOI {k ci j : Nat} {x : Int} (h : k < n) (hs : sh k = (0, ci)) (hk : (zks ci)[j]? = some true) : (zw E n sh I P).set k (zO ci ((zfs E (zks ci) (I k) (P k) 0).set j (.int (iI x)))) = zw E n sh (zup I k j x) P := by
  refine zw_set h ?_ (fun a ha => zup_ne ha) (fun _ _ => rfl)
  unfold zcell
  rw [hs, zup_eq, zfs_setI E x _ _ _ _ _ hk, Nat.zero_add]
theorem zw_setOP {k ci j : Nat} {x : Option Nat} (h : k < n) (hs : sh k = (0, ci)) (hk : (zks ci)[j]? = some false) : (zw E n sh I P).set k (zO ci ((zfs E (zks ci) (I k) (P k) 0).set j (zrf E x))) = zw E n sh I (zpu P k j x) := by
  refine zw_set h ?_ (fun _ _ => rfl) (fun a ha => zpu_ne ha)
  unfold zcell
  rw [hs, zpu_eq, zfs_setP E x _ _ _ _ _ hk, Nat.zero_add]
theorem zw_setI {k m j : Nat} {x : Int} (h : k < n) (hs : sh k = (1, m)) : (zw E n sh I P).set k (zI E m (zu (I k) j x)) = zw E n sh (zup I k j x) P := by
  refine zw_set h ?_ (fun a ha => zup_ne ha) (fun _ _ => rfl)
  unfold zcell
  rw [hs, zup_eq]
theorem zw_setZ {k m j : Nat} {x : Int} (h : k < n) (hs : sh k = (2, m)) : (zw E n sh I P).set k (zZ E m (zu (I k) j x)) = zw E n sh (zup I k j x) P := by
  refine zw_set h ?_ (fun a ha => zup_ne ha) (fun _ _ => rfl)
  unfold zcell
  rw [hs, zup_eq]
theorem zw_setR {k t m j q : Nat} (h : k < n) (hs : sh k = (t + 3, m)) : (zw E n sh I P).set k (zR E (t + 2) m (va_up (fun j => (P k j).map (fun q => zb E + q)) j (some (zb E + q)))) = zw E n sh I (zpu P k j (some q)) := by
  refine zw_set h ?_ (fun _ _ => rfl) (fun a ha => zpu_ne ha)
  unfold zcell
  rw [hs, zpu_eq]
  congr 1
  funext b
  by_cases hb : b = j
  · simp [va_up, hb]
  · simp [va_up, hb]
theorem zw_push {x : Nat × Nat} {e : va_E} (he : e = zcell E (zsh sh n x) (zcl I n) (zcp P n) n) : zw E n sh I P ++ [e] = zw E (n + 1) (zsh sh n x) (zcl I n) (zcp P n) := by
  refine zw_ext (by rw [List.length_append, zw_len]; rfl) (fun a ha => ?_)
  by_cases hn : a = n
  · subst hn
    rw [List.getElem?_append_right (by rw [zw_len]; omega), zw_len, Nat.sub_self, he]
    rfl
  · rw [List.getElem?_append_left (by rw [zw_len]; omega), zw_get (by omega)]
    unfold zcell
    have e1 : zcl I n a = I a := by funext b; simp [zcl, hn]
    have e2 : zcp P n a = P a := by funext b; simp [zcp, hn]
    rw [e1, e2, zsh, if_neg hn]
end ZW
section ZY
variable {l : Launch} {E : zEnv} {J : zM} {R : Room} {K : zK} {cells slots : Nat} {pc : Nat} {L : List (Nat × Value)} {st : List Value} {n : Nat} {sh : Nat → Nat × Nat} {I : Nat → Nat → Int} {P : Nat → Nat → Option Nat}
theorem y_getI {idx ci j k : Nat} {fin : Bool} {ty : FieldType} (hd : decode J.2.1 pc = .ok (.getfield idx, 3)) (hf : zfld J.1.cls idx ci j fin ty) (h : k < n) (hs : sh k = (0, ci)) (hk : (zks ci)[j]? = some true) (kk : Z l E J R K cells slots (zw E n sh I P) (pc + 3) L (.int (iI (I k j)) :: st)) : Z l E J R K cells slots (zw E n sh I P) pc L (.ref (zb E + k) :: st) :=
  z_get hd hf (zw_O h hs) ((zfs_get E _ _ _ 0 j true hk).trans (by rw [Nat.zero_add])) kk
theorem y_getR {idx ci j k q : Nat} {fin : Bool} {ty : FieldType} (hd : decode J.2.1 pc = .ok (.getfield idx, 3)) (hf : zfld J.1.cls idx ci j fin ty) (h : k < n) (hs : sh k = (0, ci)) (hk : (zks ci)[j]? = some false) (hp : P k j = some q) (kk : Z l E J R K cells slots (zw E n sh I P) (pc + 3) L (.ref (zb E + q) :: st)) : Z l E J R K cells slots (zw E n sh I P) pc L (.ref (zb E + k) :: st) :=
  z_get hd hf (zw_O h hs) ((zfs_get E _ _ _ 0 j false hk).trans (by rw [Nat.zero_add, hp]; rfl)) kk
theorem y_getN {idx ci j k : Nat} {fin : Bool} {ty : FieldType} (hd : decode J.2.1 pc = .ok (.getfield idx, 3)) (hf : zfld J.1.cls idx ci j fin ty) (h : k < n) (hs : sh k = (0, ci)) (hk : (zks ci)[j]? = some false) (hp : P k j = none) (kk : Z l E J R K cells slots (zw E n sh I P) (pc + 3) L (.null :: st)) : Z l E J R K cells slots (zw E n sh I P) pc L (.ref (zb E + k) :: st) :=
  z_get hd hf (zw_O h hs) ((zfs_get E _ _ _ 0 j false hk).trans (by rw [Nat.zero_add, hp]; rfl)) kk
theorem y_putI {idx ci j k : Nat} {x : Int} (hd : decode J.2.1 pc = .ok (.putfield idx, 3)) (hf : zfld J.1.cls idx ci j false .int) (h : k < n) (hs : sh k = (0, ci)) (hk : (zks ci)[j]? = some true) (kk : Z l E J R K cells slots (zw E n sh (zup I k j x) P) (pc + 3) L st) : Z l E J R K cells slots (zw E n sh I P) pc L (.int (iI x) :: .ref (zb E + k) :: st) :=
  z_put hd hf (zw_O h hs) rfl rfl (by rw [zfs_len]; exact (List.getElem?_eq_some_iff.mp hk).1) (by rw [zw_setOI h hs hk]; exact kk)
theorem y_putZ {idx ci j k : Nat} {x : Int} (hd : decode J.2.1 pc = .ok (.putfield idx, 3)) (hf : zfld J.1.cls idx ci j false .boolean) (h : k < n) (hs : sh k = (0, ci)) (hk : (zks ci)[j]? = some true) (hx : x = 0 ∨ x = 1) (kk : Z l E J R K cells slots (zw E n sh (zup I k j x) P) (pc + 3) L st) : Z l E J R K cells slots (zw E n sh I P) pc L (.int (iI x) :: .ref (zb E + k) :: st) :=
  z_put hd hf (zw_O h hs) (by rcases hx with rfl | rfl <;> rfl) (by rcases hx with rfl | rfl <;> decide +kernel) (by rw [zfs_len]; exact (List.getElem?_eq_some_iff.mp hk).1) (by rw [zw_setOI h hs hk]; exact kk)
theorem y_putFI {idx ci j k : Nat} {x : Int} (hd : decode J.2.1 pc = .ok (.putfield idx, 3)) (hf : zfld J.1.cls idx ci j true .int) (hown : vwCl[ci]?.map (fun q => q.1) = some J.1.cls) (hin : J.1.name = "<init>") (h : k < n) (hs : sh k = (0, ci)) (hk : (zks ci)[j]? = some true) (kk : Z l E J R K cells slots (zw E n sh (zup I k j x) P) (pc + 3) L st) : Z l E J R K cells slots (zw E n sh I P) pc L (.int (iI x) :: .ref (zb E + k) :: st) :=
  z_putF hd hf hown hin (zw_O h hs) rfl rfl (by rw [zfs_len]; exact (List.getElem?_eq_some_iff.mp hk).1) (by rw [zw_setOI h hs hk]; exact kk)
theorem y_putR {idx ci j k q : Nat} {ty : FieldType} (hd : decode J.2.1 pc = .ok (.putfield idx, 3)) (hf : zfld J.1.cls idx ci j false ty) (h : k < n) (hs : sh k = (0, ci)) (hk : (zks ci)[j]? = some false) (hn : narrow ty (.ref (zb E + q)) = .ref (zb E + q)) (hfit : fits ty (.ref (zb E + q)) = true) (kk : Z l E J R K cells slots (zw E n sh I (zpu P k j (some q))) (pc + 3) L st) : Z l E J R K cells slots (zw E n sh I P) pc L (.ref (zb E + q) :: .ref (zb E + k) :: st) :=
  z_put hd hf (zw_O h hs) hn hfit (by rw [zfs_len]; exact (List.getElem?_eq_some_iff.mp hk).1) (by
    have e := zw_setOP (E := E) (n := n) (sh := sh) (I := I) (P := P) (x := some q) h hs hk
    rw [show zrf E (some q) = Value.ref (zb E + q) from rfl] at e
    rw [e]; exact kk)
theorem y_putN {idx ci j k : Nat} {ty : FieldType} (hd : decode J.2.1 pc = .ok (.putfield idx, 3)) (hf : zfld J.1.cls idx ci j false ty) (h : k < n) (hs : sh k = (0, ci)) (hk : (zks ci)[j]? = some false) (hn : narrow ty .null = .null) (hfit : fits ty .null = true) (kk : Z l E J R K cells slots (zw E n sh I (zpu P k j none)) (pc + 3) L st) : Z l E J R K cells slots (zw E n sh I P) pc L (.null :: .ref (zb E + k) :: st) :=
  z_put hd hf (zw_O h hs) hn hfit (by rw [zfs_len]; exact (List.getElem?_eq_some_iff.mp hk).1) (by
    have e := zw_setOP (E := E) (n := n) (sh := sh) (I := I) (P := P) (x := none) h hs hk
    rw [show zrf E none = Value.null from rfl] at e
    rw [e]; exact kk)
theorem y_putFR {idx ci j k q : Nat} {ty : FieldType} (hd : decode J.2.1 pc = .ok (.putfield idx, 3)) (hf : zfld J.1.cls idx ci j true ty) (hown : vwCl[ci]?.map (fun q => q.1) = some J.1.cls) (hin : J.1.name = "<init>") (h : k < n) (hs : sh k = (0, ci)) (hk : (zks ci)[j]? = some false) (hn : narrow ty (.ref (zb E + q)) = .ref (zb E + q)) (hfit : fits ty (.ref (zb E + q)) = true) (kk : Z l E J R K cells slots (zw E n sh I (zpu P k j (some q))) (pc + 3) L st) : Z l E J R K cells slots (zw E n sh I P) pc L (.ref (zb E + q) :: .ref (zb E + k) :: st) :=
  z_putF hd hf hown hin (zw_O h hs) hn hfit (by rw [zfs_len]; exact (List.getElem?_eq_some_iff.mp hk).1) (by
    have e := zw_setOP (E := E) (n := n) (sh := sh) (I := I) (P := P) (x := some q) h hs hk
    rw [show zrf E (some q) = Value.ref (zb E + q) from rfl] at e
    rw [e]; exact kk)
theorem y_iaload {k m : Nat} {i : Int} (hd : decode J.2.1 pc = .ok (.iaload, 1)) (h : k < n) (hs : sh k = (1, m)) (hi : 0 ≤ i ∧ i < m) (hm : m ≤ 2147483647) (kk : Z l E J R K cells slots (zw E n sh I P) (pc + 1) L (.int (iI (I k i.toNat)) :: st)) : Z l E J R K cells slots (zw E n sh I P) pc L (.int (iI i) :: .ref (zb E + k) :: st) :=
  z_iaload hd (zw_I h hs) hi hm kk
theorem y_iastore {k m : Nat} {i x : Int} (hd : decode J.2.1 pc = .ok (.iastore, 1)) (h : k < n) (hs : sh k = (1, m)) (hi : 0 ≤ i ∧ i < m) (hm : m ≤ 2147483647) (kk : Z l E J R K cells slots (zw E n sh (zup I k i.toNat x) P) (pc + 1) L st) : Z l E J R K cells slots (zw E n sh I P) pc L (.int (iI x) :: .int (iI i) :: .ref (zb E + k) :: st) :=
  z_iastore hd (zw_I h hs) hi hm (by rw [zw_setI h hs]; exact kk)
theorem y_baload {k m : Nat} {i : Int} (hd : decode J.2.1 pc = .ok (.baload, 1)) (h : k < n) (hs : sh k = (2, m)) (hi : 0 ≤ i ∧ i < m) (hm : m ≤ 2147483647) (kk : Z l E J R K cells slots (zw E n sh I P) (pc + 1) L (.int (iI (I k i.toNat)) :: st)) : Z l E J R K cells slots (zw E n sh I P) pc L (.int (iI i) :: .ref (zb E + k) :: st) :=
  z_baload hd (zw_Z h hs) hi hm kk
theorem y_bastore {k m : Nat} {i x : Int} (hd : decode J.2.1 pc = .ok (.bastore, 1)) (h : k < n) (hs : sh k = (2, m)) (hi : 0 ≤ i ∧ i < m) (hm : m ≤ 2147483647) (hx : x = 0 ∨ x = 1) (kk : Z l E J R K cells slots (zw E n sh (zup I k i.toNat x) P) (pc + 1) L st) : Z l E J R K cells slots (zw E n sh I P) pc L (.int (iI x) :: .int (iI i) :: .ref (zb E + k) :: st) :=
  z_bastore hd (zw_Z h hs) hi hm hx (by rw [zw_setZ h hs]; exact kk)
theorem y_aaload {k t m q : Nat} {i : Int} (hd : decode J.2.1 pc = .ok (.aaload, 1)) (h : k < n) (hs : sh k = (t + 3, m)) (ht : t < 3) (hi : 0 ≤ i ∧ i < m) (hm : m ≤ 2147483647) (hp : P k i.toNat = some q) (kk : Z l E J R K cells slots (zw E n sh I P) (pc + 1) L (.ref (zb E + q) :: st)) : Z l E J R K cells slots (zw E n sh I P) pc L (.int (iI i) :: .ref (zb E + k) :: st) := by
  have e : va_rf ((P k i.toNat).map (fun q => zb E + q)) = .ref (zb E + q) := by rw [hp]; rfl
  match t, ht with
  | 0, _ => exact z_aaload (C0 := RX2) hd rfl (zw_R h hs) hi hm (by rw [e]; exact kk)
  | 1, _ => exact z_aaload (C0 := RX3) hd rfl (zw_R h hs) hi hm (by rw [e]; exact kk)
  | 2, _ => exact z_aaload2 hd (zw_R h hs) hi hm (by rw [e]; exact kk)
theorem y_aastore {k t m v ci : Nat} {i : Int} (hd : decode J.2.1 pc = .ok (.aastore, 1)) (h : k < n) (hs : sh k = (t + 3, m)) (hv : v < n) (hsv : sh v = (0, ci)) (ht : (t = 0 ∧ ci = 2) ∨ (t = 1 ∧ ci = 3)) (hi : 0 ≤ i ∧ i < m) (hm : m ≤ 2147483647) (kk : Z l E J R K cells slots (zw E n sh I (zpu P k i.toNat (some v))) (pc + 1) L st) : Z l E J R K cells slots (zw E n sh I P) pc L (.ref (zb E + v) :: .int (iI i) :: .ref (zb E + k) :: st) := by
  rcases ht with ⟨rfl, rfl⟩ | ⟨rfl, rfl⟩
  · exact z_aastore (t := 2) (ci := 2) (r := (RX2, TX2, 9)) hd rfl rfl (zw_R h hs) (zw_O hv hsv) hi hm (by rw [zw_setR h hs]; exact kk)
  · exact z_aastore (t := 3) (ci := 3) (r := (RX3, TX3, 6)) hd rfl rfl (zw_R h hs) (zw_O hv hsv) hi hm (by rw [zw_setR h hs]; exact kk)
theorem y_alen {k m : Nat} (hd : decode J.2.1 pc = .ok (.arraylength, 1)) (h : k < n) (hs : sh k = (1, m)) (kk : Z l E J R K cells slots (zw E n sh I P) (pc + 1) L (.int (iI m) :: st)) : Z l E J R K cells slots (zw E n sh I P) pc L (.ref (zb E + k) :: st) :=
  z_alen hd (zw_I h hs) kk
theorem y_new {idx ci N : Nat} {fs : List Value} (hd : decode J.2.1 pc = .ok (.new idx, 3)) (hc : zcls J.1.cls idx ci N fs) (hfs : fs = zfs E (zks ci) (fun _ => 0) (fun _ => none) 0) (h1 : cells + 1 ≤ R.cells) (h2 : slots + N ≤ R.slots) (k : Z l E J R K (cells + 1) (slots + N) (zw E (n + 1) (zsh sh n (0, ci)) (zcl I n) (zcp P n)) (pc + 3) L (.ref (zb E + n) :: st)) : Z l E J R K cells slots (zw E n sh I P) pc L st := by
  refine z_new hd hc h1 h2 ?_
  rw [zw_len, zw_push (x := (0, ci)) (by
    unfold zcell
    rw [zsh, if_pos rfl, hfs]
    have e1 : zcl I n n = fun _ => 0 := by funext b; simp [zcl]
    have e2 : zcp P n n = fun _ => none := by funext b; simp [zcp]
    rw [e1, e2])]
  exact k
theorem y_newai {m : Int} (hd : decode J.2.1 pc = .ok (.newarray .int, 2)) (hn : 0 ≤ m ∧ m ≤ 134217728) (h1 : cells + 1 ≤ R.cells) (h2 : slots + m.toNat ≤ R.slots) (k : Z l E J R K (cells + 1) (slots + m.toNat) (zw E (n + 1) (zsh sh n (1, m.toNat)) (zcl I n) (zcp P n)) (pc + 2) L (.ref (zb E + n) :: st)) : Z l E J R K cells slots (zw E n sh I P) pc L (.int (iI m) :: st) := by
  refine z_newai hd zw_int hn h1 h2 ?_
  rw [zw_len, zw_push (x := (1, m.toNat)) (by
    unfold zcell
    rw [zsh, if_pos rfl]
    have e1 : zcl I n n = fun _ => 0 := by funext b; simp [zcl]
    rw [e1])]
  exact k
theorem y_newaz {m : Int} (hd : decode J.2.1 pc = .ok (.newarray .boolean, 2)) (hn : 0 ≤ m ∧ m ≤ 134217728) (h1 : cells + 1 ≤ R.cells) (h2 : slots + m.toNat ≤ R.slots) (k : Z l E J R K (cells + 1) (slots + m.toNat) (zw E (n + 1) (zsh sh n (2, m.toNat)) (zcl I n) (zcp P n)) (pc + 2) L (.ref (zb E + n) :: st)) : Z l E J R K cells slots (zw E n sh I P) pc L (.int (iI m) :: st) := by
  refine z_newaz hd zw_bool hn h1 h2 ?_
  rw [zw_len, zw_push (x := (2, m.toNat)) (by
    unfold zcell
    rw [zsh, if_pos rfl]
    have e1 : zcl I n n = fun _ => 0 := by funext b; simp [zcl]
    rw [e1])]
  exact k
theorem y_ialoadJ {k m : Nat} {i : Int} (j : Nat) (hd : decode J.2.1 pc = .ok (.iaload, 1)) (h : k < n) (hs : sh k = (1, m)) (hi : i = (j : Int) ∧ j < m) (hm : m ≤ 2147483647) (kk : Z l E J R K cells slots (zw E n sh I P) (pc + 1) L (.int (iI (I k j)) :: st)) : Z l E J R K cells slots (zw E n sh I P) pc L (.int (iI i) :: .ref (zb E + k) :: st) :=
  y_iaload hd h hs (by omega) hm (by rw [hi.1, Int.toNat_natCast]; exact kk)
theorem y_iastoreJ {k m : Nat} {i x : Int} (j : Nat) (hd : decode J.2.1 pc = .ok (.iastore, 1)) (h : k < n) (hs : sh k = (1, m)) (hi : i = (j : Int) ∧ j < m) (hm : m ≤ 2147483647) (kk : Z l E J R K cells slots (zw E n sh (zup I k j x) P) (pc + 1) L st) : Z l E J R K cells slots (zw E n sh I P) pc L (.int (iI x) :: .int (iI i) :: .ref (zb E + k) :: st) :=
  y_iastore hd h hs (by omega) hm (by rw [hi.1, Int.toNat_natCast]; exact kk)
theorem y_baloadJ {k m : Nat} {i : Int} (j : Nat) (hd : decode J.2.1 pc = .ok (.baload, 1)) (h : k < n) (hs : sh k = (2, m)) (hi : i = (j : Int) ∧ j < m) (hm : m ≤ 2147483647) (kk : Z l E J R K cells slots (zw E n sh I P) (pc + 1) L (.int (iI (I k j)) :: st)) : Z l E J R K cells slots (zw E n sh I P) pc L (.int (iI i) :: .ref (zb E + k) :: st) :=
  y_baload hd h hs (by omega) hm (by rw [hi.1, Int.toNat_natCast]; exact kk)
theorem y_bastoreJ {k m : Nat} {i x : Int} (j : Nat) (hd : decode J.2.1 pc = .ok (.bastore, 1)) (h : k < n) (hs : sh k = (2, m)) (hi : i = (j : Int) ∧ j < m) (hm : m ≤ 2147483647) (hx : x = 0 ∨ x = 1) (kk : Z l E J R K cells slots (zw E n sh (zup I k j x) P) (pc + 1) L st) : Z l E J R K cells slots (zw E n sh I P) pc L (.int (iI x) :: .int (iI i) :: .ref (zb E + k) :: st) :=
  y_bastore hd h hs (by omega) hm hx (by rw [hi.1, Int.toNat_natCast]; exact kk)
/-- the end of a method whose answer and world are known -/
def yR (v : Option Value) (n : Nat) (sh : Nat → Nat × Nat) (I : Nat → Nat → Int) (P : Nat → Nat → Option Nat) : Option Value → Nat → (Nat → Nat × Nat) → (Nat → Nat → Int) → (Nat → Nat → Option Nat) → Prop := fun v' n' sh' I' P' => v = v' ∧ n = n' ∧ sh = sh' ∧ I = I' ∧ P = P'
theorem yR_rfl {v : Option Value} : yR v n sh I P v n sh I P := ⟨rfl, rfl, rfl, rfl, rfl⟩
/-- a contract over the world of functions -/
def yC (l : Launch) (E : zEnv) (J : zM) (rm : Room) (av : List Value) (n : Nat) (sh : Nat → Nat × Nat) (I : Nat → Nat → Int) (P : Nat → Nat → Option Nat) (post : Option Value → Nat → (Nat → Nat × Nat) → (Nat → Nat → Int) → (Nat → Nat → Option Nat) → Prop) : Prop :=
  zC l E J rm av (zw E n sh I P) (fun v ws => ∃ n' sh' I' P', ws = zw E n' sh' I' P' ∧ post v n' sh' I' P')
/-- a method's end over the world of functions -/
def yE (E : zEnv) (mc ms : Nat) (post : Option Value → Nat → (Nat → Nat × Nat) → (Nat → Nat → Int) → (Nat → Nat → Option Nat) → Prop) : zK := zEnd E mc ms (fun v ws => ∃ n' sh' I' P', ws = zw E n' sh' I' P' ∧ post v n' sh' I' P')
variable {mc ms : Nat} {post : Option Value → Nat → (Nat → Nat × Nat) → (Nat → Nat → Int) → (Nat → Nat → Option Nat) → Prop}
theorem y_ireturn {x : Int32} (hd : decode J.2.1 pc = .ok (.ireturn, 1)) (hr : J.2.2.2 = some .int) (h : post (some (.int x)) n sh I P) : Z l E J R (yE E mc ms post) mc ms (zw E n sh I P) pc L [.int x] := z_ireturn hd hr ⟨n, sh, I, P, rfl, h⟩
theorem y_zreturn {x : Int} (hd : decode J.2.1 pc = .ok (.ireturn, 1)) (hr : J.2.2.2 = some .boolean) (hx : x = 0 ∨ x = 1) (h : post (some (.int (iI x))) n sh I P) : Z l E J R (yE E mc ms post) mc ms (zw E n sh I P) pc L [.int (iI x)] := z_zreturn hd hr (by rcases hx with rfl | rfl <;> rfl) ⟨n, sh, I, P, rfl, h⟩
theorem y_lreturn {x : Int64} (hd : decode J.2.1 pc = .ok (.lreturn, 1)) (hr : J.2.2.2 = some .long) (h : post (some (.long x)) n sh I P) : Z l E J R (yE E mc ms post) mc ms (zw E n sh I P) pc L [.long x] := z_lreturn hd hr ⟨n, sh, I, P, rfl, h⟩
theorem y_areturn {x : Nat} {rt : FieldType} (hd : decode J.2.1 pc = .ok (.areturn, 1)) (hr : J.2.2.2 = some rt) (hrt : (∃ n, rt = .object n) ∨ ∃ t, rt = .array t) (h : post (some (.ref x)) n sh I P) : Z l E J R (yE E mc ms post) mc ms (zw E n sh I P) pc L [.ref x] := z_areturn hd hr hrt ⟨n, sh, I, P, rfl, h⟩
theorem y_areturnN {rt : FieldType} (hd : decode J.2.1 pc = .ok (.areturn, 1)) (hr : J.2.2.2 = some rt) (hrt : (∃ n, rt = .object n) ∨ ∃ t, rt = .array t) (h : post (some .null) n sh I P) : Z l E J R (yE E mc ms post) mc ms (zw E n sh I P) pc L [.null] := z_areturnN hd hr hrt ⟨n, sh, I, P, rfl, h⟩
theorem y_return (hd : decode J.2.1 pc = .ok (.return_, 1)) (hr : J.2.2.2 = none) (h : post none n sh I P) : Z l E J R (yE E mc ms post) mc ms (zw E n sh I P) pc L [] := z_return hd hr ⟨n, sh, I, P, rfl, h⟩
theorem yC_of {rm : Room} {av : List Value} (hy : plainName J.1.cls = true) (hn : (lg_sl av).length ≤ J.2.2.1) (k : Z l E J rm (yE E rm.cells rm.slots post) 0 0 (zw E n sh I P) 0 (lv_args 0 av) []) : yC l E J rm av n sh I P post := zC_of hy hn k
theorem y_callV {J2 : zM} {rm : Room} {As : List Value} {idx a k ci : Nat} {st0 : List Value} {post2 : Option Value → Nat → (Nat → Nat × Nat) → (Nat → Nat → Int) → (Nat → Nat → Option Nat) → Prop} (hd : decode J.2.1 pc = .ok (.invokevirtual idx, 3)) (hc : zcal 0 J.1.cls idx J2 a) (hM : yC l E J2 rm (.ref (zb E + k) :: As) n sh I P post2) (h : k < n) (hs : sh k = (0, ci)) (hci : vwCl[ci]?.map (fun q => q.1) = some J2.1.cls) (hn : As.length = a) (hst : As.reverse ++ .ref (zb E + k) :: st = st0) (h8 : (st.map fun v => v.category).sum ≤ 8) (hR : zfit R rm J2.2.2.1 cells slots)
    (kk : ∀ (v : Option Value) (n' : Nat) (sh' : Nat → Nat × Nat) (I' : Nat → Nat → Int) (P' : Nat → Nat → Option Nat), post2 v n' sh' I' P' → Z l E J R K (cells + rm.cells) (slots + rm.slots) (zw E n' sh' I' P') (pc + 3) L (v.toList ++ st)) : Z l E J R K cells slots (zw E n sh I P) pc L st0 :=
  z_callV hd hc hM (zw_O h hs) hci hn hst h8 hR (fun v ws' ⟨n', sh', I', P', e, hp⟩ => by subst e; exact kk v n' sh' I' P' hp)
theorem y_callS {J2 : zM} {rm : Room} {As : List Value} {idx a : Nat} {st0 : List Value} {post2 : Option Value → Nat → (Nat → Nat × Nat) → (Nat → Nat → Int) → (Nat → Nat → Option Nat) → Prop} (hd : decode J.2.1 pc = .ok (.invokestatic idx, 3)) (hc : zcal 1 J.1.cls idx J2 a) (hM : yC l E J2 rm As n sh I P post2) (hn : As.length = a) (hst : As.reverse ++ st = st0) (h8 : (st.map fun v => v.category).sum ≤ 8) (hR : zfit R rm J2.2.2.1 cells slots)
    (kk : ∀ (v : Option Value) (n' : Nat) (sh' : Nat → Nat × Nat) (I' : Nat → Nat → Int) (P' : Nat → Nat → Option Nat), post2 v n' sh' I' P' → Z l E J R K (cells + rm.cells) (slots + rm.slots) (zw E n' sh' I' P') (pc + 3) L (v.toList ++ st)) : Z l E J R K cells slots (zw E n sh I P) pc L st0 :=
  z_callS hd hc hM hn hst h8 hR (fun v ws' ⟨n', sh', I', P', e, hp⟩ => by subst e; exact kk v n' sh' I' P' hp)
theorem y_callI {J2 : zM} {rm : Room} {As : List Value} {idx a k : Nat} {st0 : List Value} {post2 : Option Value → Nat → (Nat → Nat × Nat) → (Nat → Nat → Int) → (Nat → Nat → Option Nat) → Prop} (hd : decode J.2.1 pc = .ok (.invokespecial idx, 3)) (hc : zcal 2 J.1.cls idx J2 a) (hM : yC l E J2 rm (.ref (zb E + k) :: As) n sh I P post2) (hn : As.length = a) (hst : As.reverse ++ .ref (zb E + k) :: st = st0) (h8 : (st.map fun v => v.category).sum ≤ 8) (hR : zfit R rm J2.2.2.1 cells slots)
    (kk : ∀ (v : Option Value) (n' : Nat) (sh' : Nat → Nat × Nat) (I' : Nat → Nat → Int) (P' : Nat → Nat → Option Nat), post2 v n' sh' I' P' → Z l E J R K (cells + rm.cells) (slots + rm.slots) (zw E n' sh' I' P') (pc + 3) L (v.toList ++ st)) : Z l E J R K cells slots (zw E n sh I P) pc L st0 :=
  z_callI hd hc hM hn hst h8 hR (fun v ws' ⟨n', sh', I', P', e, hp⟩ => by subst e; exact kk v n' sh' I' P' hp)
end ZY
theorem zloop {σ : Type} (μ : σ → Nat) {X : σ → Prop} (hs : ∀ s, (∀ s', μ s' < μ s → X s') → X s) (s : σ) : X s := (measure μ).wf.induction s (fun x ih => hs x (fun s' h => ih s' h))
abbrev rm (f k : Nat) : Room := { frames := f, cells := 0, slots := 0, locals := k }
/-- the shapes of the cells that are made at the start: 0 .. 23 the class's, 24 .. 51 the reference's -/
def shF (k : Nat) : Nat × Nat := ([(0, 6), (3, 40), (4, 200), (0, 4), (1, 201), (1, 201), (1, 201), (1, 201), (5, 7), (1, 301), (1, 301), (1, 301), (1, 301), (1, 301), (1, 301), (1, 301), (1, 301), (0, 0), (1, 301), (0, 1), (1, 64), (0, 5), (1, 100), (1, 100), (0, 7), (1, 40), (1, 40), (1, 40), (1, 12040), (1, 201), (1, 201), (1, 201), (1, 201), (1, 200), (1, 200), (1, 200), (1, 200), (1, 200), (1, 12040), (1, 20000), (1, 20000), (1, 20000), (1, 20000), (1, 100), (1, 100), (1, 2107), (1, 2107), (1, 2107), (2, 2107), (2, 301), (1, 301), (1, 12040)] : List (Nat × Nat)).getD k (0, 0)
/-- the reference's references, by the slot -/
def pM (j : Nat) : Option Nat := ([none, none, none, none, none, some 25, some 26, some 27, some 28, some 29, some 30, some 31, some 32, some 33, some 34, some 35, some 36, some 37, some 38, some 39, some 40, some 41, some 42, some 43, some 44, some 45, none, some 46, some 47, some 48, some 49, some 50, some 51] : List (Option Nat)).getD j none
/-- the reference stands in the world -/
def yM (n : Nat) (sh : Nat → Nat × Nat) (P : Nat → Nat → Option Nat) : Prop := 52 ≤ n ∧ (∀ k, k < 52 → sh k = shF k) ∧ ∀ j, P 24 j = pM j
theorem yM.lt {n : Nat} {sh : Nat → Nat × Nat} {P : Nat → Nat → Option Nat} (h : yM n sh P) {k : Nat} (hk : k < 52) : k < n := by have := h.1; omega
