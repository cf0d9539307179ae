/-! the checker by recursors, and that it says the same: printed by wip/gen/fast.py -/
noncomputable def lnRqz {α : Type} (l : List α) : Nat := List.rec (motive := fun _ => Nat) 0 (fun _ _ ih => Nat.succ ih) l
noncomputable def apRqz {α : Type} (l m : List α) : List α := List.rec (motive := fun _ => List α) m (fun a _ ih => a :: ih) l
noncomputable def alRqz {α : Type} (l : List α) (f : α → Bool) : Bool := List.rec (motive := fun _ => Bool) true (fun a r ih => List.rec (motive := fun _ => Bool) (f a) (fun _ _ _ => Bool.rec (motive := fun _ => Bool) false ih (f a)) r) l
noncomputable def anRqz {α : Type} (l : List α) (f : α → Bool) : Bool := List.rec (motive := fun _ => Bool) false (fun a _ ih => Bool.rec (motive := fun _ => Bool) ih true (f a)) l
noncomputable def elRqz (o : Nat) (l : List Nat) : Bool := List.rec (motive := fun _ => Bool) false (fun a _ ih => Bool.rec (motive := fun _ => Bool) ih true (Nat.beq o a)) l
noncomputable def mpRqz {α β : Type} (f : α → β) (l : List α) : List β := List.rec (motive := fun _ => List β) [] (fun a _ ih => f a :: ih) l
noncomputable def cnRqz {α : Type} (c : Bool) (a b : α) : α := Bool.rec (motive := fun _ => α) b a c
theorem cnRqz_e : @cnRqz = @cond := by
  funext a_s c_s x_s y_s
  cases c_s <;> rfl

theorem lnRqz_e : @lnRqz = @List.length := by
  funext a_s l_s
  induction l_s with
  | nil => rfl
  | cons a r ih => exact congrArg Nat.succ ih
theorem apRqz_e : @apRqz = @List.append := by
  funext a_s l_s m_s
  induction l_s with
  | nil => rfl
  | cons a r ih => exact congrArg (List.cons a) ih
theorem brq_and {b x : Bool} : Bool.rec (motive := fun _ => Bool) false x b = (b && x) := by cases b <;> rfl
theorem brq_or {b x : Bool} : Bool.rec (motive := fun _ => Bool) x true b = (b || x) := by cases b <;> rfl
theorem brq_if {α : Type} {b : Bool} {x y : α} : Bool.rec (motive := fun _ => α) x y b = (bif b then y else x) := by cases b <;> rfl
theorem alRqz_e : @alRqz = @List.all := by
  funext a_s l_s f_s
  induction l_s with
  | nil => rfl
  | cons a r ih => cases r with
    | nil => exact (Bool.and_true (f_s a)).symm
    | cons b s => exact brq_and.trans (congrArg (f_s a && ·) ih)
theorem anRqz_e : @anRqz = @List.any := by
  funext a_s l_s f_s
  induction l_s with
  | nil => rfl
  | cons a r ih => exact brq_or.trans (congrArg (f_s a || ·) ih)

noncomputable def zgetRq {α : Type} (l : List α) : Nat → Option α := List.rec (motive := fun _ => Nat → Option α) (fun _ => none) (fun a _ ih n => Nat.rec (motive := fun _ => Option α) (some a) (fun m _ => ih m) n) l
theorem zgetRq_e : @zgetRq = @zget := by
  funext a_s l_s n_s
  induction l_s generalizing n_s with
  | nil => cases n_s <;> rfl
  | cons a r ih => cases n_s with
    | zero => rfl
    | succ m => exact ih m
noncomputable def zputRq {α : Type} (l : List α) (i : Nat) (x : α) : List α := List.rec (motive := fun _ => Nat → List α) (fun _ => []) (fun a r ih n => Nat.rec (motive := fun _ => List α) (x :: r) (fun m _ => a :: ih m) n) l i
theorem zputRq_e : @zputRq = @zput := by
  funext a_s l_s n_s x_s
  induction l_s generalizing n_s with
  | nil => cases n_s <;> rfl
  | cons a r ih => cases n_s with
    | zero => rfl
    | succ m => exact congrArg (List.cons a) (ih m)
noncomputable def abdRq (cs : aCs) : aI → Int × Int
  | .inl (k, off) => (match zgetRq cs k with
    | some q => (q.1 + off, q.2 + off)
    | none => (1, 0))
  | .inr n => (n, n)
theorem abdRq_e : @abdRq = @abd := by
  delta abdRq abd
  try rw [zgetRq_e]
  first | done | rfl
noncomputable def afindRq (T : aT) (o k : Nat) : Option aI := List.rec (motive := fun _ => Option aI) none (fun p _ ih => Bool.rec (motive := fun _ => Option aI) ih (Bool.rec (motive := fun _ => Option aI) ih (some p.2.2) (Nat.beq p.2.1 k)) (Nat.beq p.1 o)) T
theorem afindRq_e : @afindRq = @afind := by
  funext t_s o_s k_s
  induction t_s with
  | nil => rfl
  | cons p r ih =>
    show Bool.rec (motive := fun _ => Option aI) (afindRq r o_s k_s) (Bool.rec (motive := fun _ => Option aI) (afindRq r o_s k_s) (some p.2.2) (Nat.beq p.2.1 k_s)) (Nat.beq p.1 o_s) = bif Nat.beq p.1 o_s && Nat.beq p.2.1 k_s then some p.2.2 else afind r o_s k_s
    rw [ih]
    cases Nat.beq p.1 o_s <;> cases Nat.beq p.2.1 k_s <;> rfl
noncomputable def imaxRq (a b : Int) : Int := cnRqz (ile a b) (b) (a)
theorem imaxRq_e : @imaxRq = @imax := by
  delta imaxRq imax
  try rw [cnRqz_e]
  first | done | rfl
noncomputable def iminRq (a b : Int) : Int := cnRqz (ile a b) (a) (b)
theorem iminRq_e : @iminRq = @imin := by
  delta iminRq imin
  try rw [cnRqz_e]
  first | done | rfl
noncomputable def aclipRq (q : Int × Int) : Int × Int := cnRqz (aok32 q) (q) (afull)
theorem aclipRq_e : @aclipRq = @aclip := by
  delta aclipRq aclip
  try rw [cnRqz_e]
  first | done | rfl
noncomputable def anewRq (cs : aCs) (q : Int × Int) : aCs × aI := (apRqz cs [q], .inl ((lnRqz cs), 0))
theorem anewRq_e : @anewRq = @anew := by
  delta anewRq anew
  try rw [lnRqz_e]
  try rw [apRqz_e]
  first | done | rfl
noncomputable def ashiftRq (cs : aCs) (k : Nat) (o d : Int) : aCs × aI := cnRqz (aok32 ((abdRq cs (.inl (k, o))).1 + d, (abdRq cs (.inl (k, o))).2 + d)) ((cs, .inl (k, o + d))) (anewRq cs afull)
theorem ashiftRq_e : @ashiftRq = @ashift := by
  delta ashiftRq ashift
  try rw [abdRq_e]
  try rw [anewRq_e]
  try rw [cnRqz_e]
  first | done | rfl
noncomputable def abinRq (cs : aCs) (b : Nat) (x y : aI) : aCs × aI := match x, y with
  | .inr c, .inr d => (cs, .inr (zbin b (Int32.ofInt c) (Int32.ofInt d)).toInt)
  | x, y => (match b with
    | 0 => (match x, y with
      | .inl (k, o), .inr d => ashiftRq cs k o d
      | .inr c, .inl (k, o) => ashiftRq cs k o c
      | x, y => anewRq cs (aclipRq ((abdRq cs x).1 + (abdRq cs y).1, (abdRq cs x).2 + (abdRq cs y).2)))
    | 1 => (match x, y with
      | .inl (k, o), .inr d => ashiftRq cs k o (-d)
      | x, y => anewRq cs (aclipRq ((abdRq cs x).1 - (abdRq cs y).2, (abdRq cs x).2 - (abdRq cs y).1)))
    | 2 => cnRqz (decide (0 ≤ (abdRq cs x).1) && decide (0 ≤ (abdRq cs y).1)) (anewRq cs (aclipRq ((abdRq cs x).1 * (abdRq cs y).1, (abdRq cs x).2 * (abdRq cs y).2))) (anewRq cs afull)
    | 3 => cnRqz (decide (0 ≤ (abdRq cs y).1)) (anewRq cs (0, (abdRq cs y).2)) (cnRqz (decide (0 ≤ (abdRq cs x).1)) (anewRq cs (0, (abdRq cs x).2)) (anewRq cs afull))
    | 8 => (match y with
      | .inr d => cnRqz (decide (d = 8)) (anewRq cs (0, 16777215)) (cnRqz (decide (d = 16)) (anewRq cs (0, 65535)) (anewRq cs afull))
      | _ => anewRq cs afull)
    | _ => anewRq cs afull)
theorem abinRq_e : @abinRq = @abin := by
  delta abinRq abin
  try rw [abdRq_e]
  try rw [aclipRq_e]
  try rw [anewRq_e]
  try rw [ashiftRq_e]
  try rw [cnRqz_e]
  first | done | rfl
noncomputable def adiv0Rq (cs : aCs) (b : Nat) (x y : aI) : Option (aCs × aI) :=
  cnRqz (decide (0 < (abdRq cs y).1)) (some (match b with
    | 0 => (match y with
      | .inr d => anewRq cs ((abdRq cs x).1.tdiv d, (abdRq cs x).2.tdiv d)
      | _ => anewRq cs afull)
    | _ => cnRqz (decide (0 ≤ (abdRq cs x).1)) (anewRq cs (0, (abdRq cs y).2 - 1)) (anewRq cs (1 - (abdRq cs y).2, (abdRq cs y).2 - 1)))) (cnRqz (decide ((abdRq cs y).2 < 0)) (some (anewRq cs afull)) (none))
theorem adiv0Rq_e : @adiv0Rq = @adiv0 := by
  delta adiv0Rq adiv0
  try rw [abdRq_e]
  try rw [anewRq_e]
  try rw [cnRqz_e]
  first | done | rfl
noncomputable def adivRq (cs : aCs) (b : Nat) (x y : aI) : Option (aCs × aI) := match x, y with
  | .inr c, .inr d => cnRqz (decide (Int32.ofInt d = 0)) (none) (some (cs, .inr (zdv b (Int32.ofInt c) (Int32.ofInt d)).toInt))
  | x, y => adiv0Rq cs b x y
theorem adivRq_e : @adivRq = @adiv := by
  delta adivRq adiv
  try rw [adiv0Rq_e]
  try rw [cnRqz_e]
  first | done | rfl
noncomputable def aunRq (cs : aCs) (b : Nat) (x : aI) : aCs × aI := match b with
  | 0 => cnRqz (decide (-2147483647 ≤ (abdRq cs x).1)) (anewRq cs (-(abdRq cs x).2, -(abdRq cs x).1)) (anewRq cs afull)
  | 1 => anewRq cs (-128, 127)
  | _ => anewRq cs (-32768, 32767)
theorem aunRq_e : @aunRq = @aun := by
  delta aunRq aun
  try rw [abdRq_e]
  try rw [anewRq_e]
  try rw [cnRqz_e]
  first | done | rfl
noncomputable def arf2Rq (cs : aCs) (k : Nat) (l h : Int) : Option aCs := cnRqz (ile l h) (some (zputRq cs k (l, h))) (none)
theorem arf2Rq_e : @arf2Rq = @arf2 := by
  delta arf2Rq arf2
  try rw [zputRq_e]
  try rw [cnRqz_e]
  first | done | rfl
noncomputable def arfRq (cs : aCs) (a : aI) (q : Int × Int) : Option aCs := match a with
  | .inl (k, o) => (match zgetRq cs k with
    | some p => arf2Rq cs k (imaxRq p.1 (q.1 - o)) (iminRq p.2 (q.2 - o))
    | none => none)
  | .inr c => cnRqz (ile q.1 c && ile c q.2) (some cs) (none)
theorem arfRq_e : @arfRq = @arf := by
  delta arfRq arf
  try rw [zgetRq_e]
  try rw [imaxRq_e]
  try rw [iminRq_e]
  try rw [arf2Rq_e]
  try rw [cnRqz_e]
  first | done | rfl
noncomputable def altRq (cs : aCs) (x y : aI) : Option aCs := match arfRq cs x (-abig, (abdRq cs y).2 - 1) with
  | some c1 => arfRq c1 y ((abdRq cs x).1 + 1, abig)
  | none => none
theorem altRq_e : @altRq = @alt := by
  delta altRq alt
  try rw [abdRq_e]
  try rw [arfRq_e]
  first | done | rfl
noncomputable def aleRq (cs : aCs) (x y : aI) : Option aCs := match arfRq cs x (-abig, (abdRq cs y).2) with
  | some c1 => arfRq c1 y ((abdRq cs x).1, abig)
  | none => none
theorem aleRq_e : @aleRq = @ale := by
  delta aleRq ale
  try rw [abdRq_e]
  try rw [arfRq_e]
  first | done | rfl
noncomputable def aeqRq (cs : aCs) (x y : aI) : Option aCs := match arfRq cs x (abdRq cs y) with
  | some c1 => arfRq c1 y (abdRq cs x)
  | none => none
theorem aeqRq_e : @aeqRq = @aeq := by
  delta aeqRq aeq
  try rw [abdRq_e]
  try rw [arfRq_e]
  first | done | rfl
noncomputable def aneRq (cs : aCs) (x y : aI) : Option aCs := cnRqz (ieq (abdRq cs y).1 (abdRq cs y).2) ((cnRqz (ieq (abdRq cs x).1 (abdRq cs y).1) (arfRq cs x ((abdRq cs y).1 + 1, abig)) (cnRqz (ieq (abdRq cs x).2 (abdRq cs y).1) (arfRq cs x (-abig, (abdRq cs y).1 - 1)) (some cs)))) (some cs)
theorem aneRq_e : @aneRq = @ane := by
  delta aneRq ane
  try rw [abdRq_e]
  try rw [arfRq_e]
  try rw [cnRqz_e]
  first | done | rfl
noncomputable def aclrRq (al : List (Option aV)) (i : Nat) : List (Option aV) := match i with
  | 0 => al
  | j + 1 => (match zgetRq al j with
    | some (some (.inl (.inr _))) => zputRq al j none
    | _ => al)
theorem aclrRq_e : @aclrRq = @aclr := by
  delta aclrRq aclr
  try rw [zgetRq_e]
  try rw [zputRq_e]
  first | done | rfl
noncomputable def ast1Rq (al : List (Option aV)) (i : Nat) (a : aV) : List (Option aV) := zputRq (aclrRq al i) i (some a)
theorem ast1Rq_e : @ast1Rq = @ast1 := by
  delta ast1Rq ast1
  try rw [zputRq_e]
  try rw [aclrRq_e]
  first | done | rfl
noncomputable def ast2Rq (al : List (Option aV)) (i : Nat) (a : aV) : List (Option aV) := zputRq (zputRq (aclrRq al i) i (some a)) (i + 1) none
theorem ast2Rq_e : @ast2Rq = @ast2 := by
  delta ast2Rq ast2
  try rw [zputRq_e]
  try rw [aclrRq_e]
  first | done | rfl
noncomputable def aq1Rq (len a : Nat) : aX → Option aR := fun (cs, T, pc, al, st) => match zgetRq al a with
  | some (some (.inl (.inl i))) => ago (cs, T, pc + len, al, .inl (.inl i) :: st)
  | _ => none
theorem aq1Rq_e : @aq1Rq = @aq1 := by
  delta aq1Rq aq1
  try rw [zgetRq_e]
  first | done | rfl
noncomputable def aq2Rq (len a : Nat) : aX → Option aR := fun (cs, T, pc, al, st) => match zgetRq al a with
  | some (some (.inl (.inr i))) => ago (cs, T, pc + len, al, .inl (.inr i) :: st)
  | _ => none
theorem aq2Rq_e : @aq2Rq = @aq2 := by
  delta aq2Rq aq2
  try rw [zgetRq_e]
  first | done | rfl
noncomputable def aq3Rq (len a : Nat) : aX → Option aR := fun (cs, T, pc, al, st) => match zgetRq al a with
  | some (some (.inr l)) => ago (cs, T, pc + len, al, .inr l :: st)
  | _ => none
theorem aq3Rq_e : @aq3Rq = @aq3 := by
  delta aq3Rq aq3
  try rw [zgetRq_e]
  first | done | rfl
noncomputable def aq4Rq (len a : Nat) : aX → Option aR := fun (cs, T, pc, al, st) => match st with
  | .inl (.inl i) :: r => ago (cs, T, pc + len, ast1Rq al a (.inl (.inl i)), r)
  | _ => none
theorem aq4Rq_e : @aq4Rq = @aq4 := by
  delta aq4Rq aq4
  try rw [ast1Rq_e]
  first | done | rfl
noncomputable def aq5Rq (len a : Nat) : aX → Option aR := fun (cs, T, pc, al, st) => match st with
  | .inl (.inr i) :: r => ago (cs, T, pc + len, ast2Rq al a (.inl (.inr i)), r)
  | _ => none
theorem aq5Rq_e : @aq5Rq = @aq5 := by
  delta aq5Rq aq5
  try rw [ast2Rq_e]
  first | done | rfl
noncomputable def aq6Rq (len a : Nat) : aX → Option aR := fun (cs, T, pc, al, st) => match st with
  | .inr l :: r => ago (cs, T, pc + len, ast1Rq al a (.inr l), r)
  | _ => none
theorem aq6Rq_e : @aq6Rq = @aq6 := by
  delta aq6Rq aq6
  try rw [ast1Rq_e]
  first | done | rfl
noncomputable def aq7Rq (len b : Nat) : aX → Option aR := fun (cs, T, pc, al, st) => match st with
  | .inl (.inl y) :: .inl (.inl x) :: r => ago ((abinRq cs b x y).1, T, pc + len, al, .inl (.inl (abinRq cs b x y).2) :: r)
  | _ => none
theorem aq7Rq_e : @aq7Rq = @aq7 := by
  delta aq7Rq aq7
  try rw [abinRq_e]
  first | done | rfl
noncomputable def aq8Rq (len b : Nat) : aX → Option aR := fun (cs, T, pc, al, st) => match st with
  | .inl (.inl y) :: .inl (.inl x) :: r => (match adivRq cs b x y with
    | some q => ago (q.1, T, pc + len, al, .inl (.inl q.2) :: r)
    | none => none)
  | _ => none
theorem aq8Rq_e : @aq8Rq = @aq8 := by
  delta aq8Rq aq8
  try rw [adivRq_e]
  first | done | rfl
noncomputable def aq9Rq (len b : Nat) : aX → Option aR := fun (cs, T, pc, al, st) => match st with
  | .inl (.inl x) :: r => ago ((aunRq cs b x).1, T, pc + len, al, .inl (.inl (aunRq cs b x).2) :: r)
  | _ => none
theorem aq9Rq_e : @aq9Rq = @aq9 := by
  delta aq9Rq aq9
  try rw [aunRq_e]
  first | done | rfl
noncomputable def aq11Rq (len : Nat) : aX → Option aR := fun (cs, T, pc, al, st) => match st with
  | .inl (.inr x) :: r => cnRqz (aok32 (abdRq cs x)) (ago (cs, T, pc + len, al, .inl (.inl x) :: r)) (ago ((anewRq cs afull).1, T, pc + len, al, .inl (.inl (anewRq cs afull).2) :: r))
  | _ => none
theorem aq11Rq_e : @aq11Rq = @aq11 := by
  delta aq11Rq aq11
  try rw [abdRq_e]
  try rw [anewRq_e]
  try rw [cnRqz_e]
  first | done | rfl
noncomputable def aq12Rq (len : Nat) : aX → Option aR := fun (cs, T, pc, al, st) => match st with
  | .inl (.inr _) :: .inl (.inr _) :: r => ago ((anewRq cs alfull).1, T, pc + len, al, .inl (.inr (anewRq cs alfull).2) :: r)
  | _ => none
theorem aq12Rq_e : @aq12Rq = @aq12 := by
  delta aq12Rq aq12
  try rw [anewRq_e]
  first | done | rfl
noncomputable def aq13Rq (len : Nat) : aX → Option aR := fun (cs, T, pc, al, st) => match st with
  | .inl (.inl _) :: .inl (.inr _) :: r => ago ((anewRq cs alfull).1, T, pc + len, al, .inl (.inr (anewRq cs alfull).2) :: r)
  | _ => none
theorem aq13Rq_e : @aq13Rq = @aq13 := by
  delta aq13Rq aq13
  try rw [anewRq_e]
  first | done | rfl
noncomputable def aoptRq (f : aCs → aX) (o : Option aCs) : List aX := Option.rec (motive := fun _ => List aX) [] (fun cs => [f cs]) o
theorem aoptRq_e : @aoptRq = @aopt := by
  funext f_s o_s
  cases o_s <;> rfl
noncomputable def aq14Rq (len : Nat) : aX → Option aR := fun (cs, T, pc, al, st) => match st with
  | .inl (.inr y) :: .inl (.inr x) :: r => some (.inl (aoptRq (fun c => (c, T, pc + len, al, .inl (.inl (.inr (-1))) :: r)) (altRq cs x y) ++ (aoptRq (fun c => (c, T, pc + len, al, .inl (.inl (.inr 0)) :: r)) (aeqRq cs x y) ++ aoptRq (fun c => (c, T, pc + len, al, .inl (.inl (.inr 1)) :: r)) (altRq cs y x))))
  | _ => none
theorem aq14Rq_e : @aq14Rq = @aq14 := by
  delta aq14Rq aq14
  try rw [altRq_e]
  try rw [aeqRq_e]
  try rw [aoptRq_e]
  first | done | rfl
noncomputable def acmpRq (cs : aCs) (b : Nat) (x y : aI) : Option aCs × Option aCs := match b with
  | 0 => (aeqRq cs x y, aneRq cs x y)
  | 1 => (aneRq cs x y, aeqRq cs x y)
  | 2 => (altRq cs x y, aleRq cs y x)
  | 3 => (aleRq cs y x, altRq cs x y)
  | 4 => (altRq cs y x, aleRq cs x y)
  | _ => (aleRq cs x y, altRq cs y x)
theorem acmpRq_e : @acmpRq = @acmp := by
  delta acmpRq acmp
  try rw [altRq_e]
  try rw [aleRq_e]
  try rw [aeqRq_e]
  try rw [aneRq_e]
  first | done | rfl
noncomputable def aq15Rq (len a b : Nat) : aX → Option aR := fun (cs, T, pc, al, st) => match st with
  | .inl (.inl x) :: r => some (.inl (aoptRq (fun c => (c, T, a, al, r)) (acmpRq cs b x (.inr 0)).1 ++ aoptRq (fun c => (c, T, pc + len, al, r)) (acmpRq cs b x (.inr 0)).2))
  | _ => none
theorem aq15Rq_e : @aq15Rq = @aq15 := by
  delta aq15Rq aq15
  try rw [aoptRq_e]
  try rw [acmpRq_e]
  first | done | rfl
noncomputable def aq16Rq (len a b : Nat) : aX → Option aR := fun (cs, T, pc, al, st) => match st with
  | .inl (.inl y) :: .inl (.inl x) :: r => some (.inl (aoptRq (fun c => (c, T, a, al, r)) (acmpRq cs b x y).1 ++ aoptRq (fun c => (c, T, pc + len, al, r)) (acmpRq cs b x y).2))
  | _ => none
theorem aq16Rq_e : @aq16Rq = @aq16 := by
  delta aq16Rq aq16
  try rw [aoptRq_e]
  try rw [acmpRq_e]
  first | done | rfl
noncomputable def aswkRq (cs : aCs) (T : aT) (al : List (Option aV)) (x : aI) (r : List aV) : List (Int32 × Nat) → List aX
  | [] => []
  | (k, t) :: s => aoptRq (fun c => (c, T, t, al, r)) (aeqRq cs x (.inr k.toInt)) ++ aswkRq cs T al x r s
theorem aswkRq_e : @aswkRq = @aswk := by
  funext cs_s T_s al_s x_s r_s l_s
  induction l_s with
  | nil => first | rfl | simp only [aswkRq, aswk]
  | cons p r ih => simp only [aswkRq, aswk, aoptRq_e, aeqRq_e, ih] <;> first | rfl | (split <;> rfl)
noncomputable def aq18Rq (a : Nat) (sw : List (Int32 × Nat)) : aX → Option aR := fun (cs, T, _, al, st) => match st with
  | .inl (.inl x) :: r => some (.inl (aswkRq cs T al x r sw ++ (cnRqz (aswd (abdRq cs x) sw) ([]) ([(cs, T, a, al, r)]))))
  | _ => none
theorem aq18Rq_e : @aq18Rq = @aq18 := by
  delta aq18Rq aq18
  try rw [abdRq_e]
  try rw [aswkRq_e]
  try rw [cnRqz_e]
  first | done | rfl
noncomputable def aq19Rq (len a : Nat) (v : Value) : aX → Option aR := fun (cs, T, pc, al, st) => match zgetRq al a, v with
  | some (some (.inl (.inl i))), .int k => ago ((abinRq cs 0 i (.inr k.toInt)).1, T, pc + len, ast1Rq al a (.inl (.inl (abinRq cs 0 i (.inr k.toInt)).2)), st)
  | _, _ => none
theorem aq19Rq_e : @aq19Rq = @aq19 := by
  delta aq19Rq aq19
  try rw [zgetRq_e]
  try rw [abinRq_e]
  try rw [ast1Rq_e]
  first | done | rfl
noncomputable def aq39Rq (len : Nat) : aX → Option aR := fun (cs, T, pc, al, st) => match st with
  | v :: r => cnRqz (aisL v) (none) (ago (cs, T, pc + len, al, v :: v :: r))
  | _ => none
theorem aq39Rq_e : @aq39Rq = @aq39 := by
  delta aq39Rq aq39
  try rw [cnRqz_e]
  first | done | rfl
noncomputable def aq40Rq (len : Nat) : aX → Option aR := fun (cs, T, pc, al, st) => match st with
  | v :: w :: r => cnRqz (aisL v || aisL w) (none) (ago (cs, T, pc + len, al, v :: w :: v :: r))
  | _ => none
theorem aq40Rq_e : @aq40Rq = @aq40 := by
  delta aq40Rq aq40
  try rw [cnRqz_e]
  first | done | rfl
noncomputable def aq41Rq (len : Nat) : aX → Option aR := fun (cs, T, pc, al, st) => match st with
  | v :: w :: r => cnRqz (aisL v || aisL w) (none) (ago (cs, T, pc + len, al, v :: w :: v :: w :: r))
  | _ => none
theorem aq41Rq_e : @aq41Rq = @aq41 := by
  delta aq41Rq aq41
  try rw [cnRqz_e]
  first | done | rfl
noncomputable def aq42Rq (len : Nat) : aX → Option aR := fun (cs, T, pc, al, st) => match st with
  | v :: r => cnRqz (aisL v) (none) (ago (cs, T, pc + len, al, r))
  | _ => none
theorem aq42Rq_e : @aq42Rq = @aq42 := by
  delta aq42Rq aq42
  try rw [cnRqz_e]
  first | done | rfl
noncomputable def aq44Rq (len : Nat) : aX → Option aR := fun (cs, T, pc, al, st) => match st with
  | v :: r => cnRqz (aisL v) (ago (cs, T, pc + len, al, r)) (none)
  | _ => none
theorem aq44Rq_e : @aq44Rq = @aq44 := by
  delta aq44Rq aq44
  try rw [cnRqz_e]
  first | done | rfl
noncomputable def aivRq (B : aB) (o k : Nat) : Int × Int := match B o with
  | some (.inl q) => q
  | some (.inr l) => (match zgetRq l k with
    | some q => q
    | none => afull)
  | none => afull
theorem aivRq_e : @aivRq = @aiv := by
  delta aivRq aiv
  try rw [zgetRq_e]
  first | done | rfl
noncomputable def aallRq (S : Nat → Option (Nat × Nat)) (l : List Nat) (f : Nat → Nat → Nat → Bool) : Bool := alRqz l (fun o => match S o with
  | some (t, n) => !Nat.beq t 9 && f o t n
  | none => false)
theorem aallRq_e : @aallRq = @aall := by
  delta aallRq aall
  try rw [alRqz_e]
  first | done | rfl
noncomputable def ajoinRq (B : aB) (b : Nat) : List Nat → Int × Int
  | [] => (1, 0)
  | [o] => aivRq B o b
  | o :: s => (min (aivRq B o b).1 (ajoinRq B b s).1, max (aivRq B o b).2 (ajoinRq B b s).2)
theorem ajoinRq_e : @ajoinRq = @ajoin := by
  funext B_s b_s l_s
  induction l_s with
  | nil => rfl
  | cons p r ih => cases r with
    | nil => show aivRq B_s p b_s = aiv B_s p b_s; rw [aivRq_e]
    | cons q s => simp only [ajoinRq, ajoin, aivRq_e] at ih ⊢ <;> rw [ih]
noncomputable def ardRq (B : aB) (cs : aCs) (T : aT) (o k : Nat) : aCs × aT × aI := match afindRq T o k with
  | some i => (cs, T, i)
  | none => (apRqz cs [aivRq B o k], (o, k, .inl ((lnRqz cs), 0)) :: T, .inl ((lnRqz cs), 0))
theorem ardRq_e : @ardRq = @ard := by
  delta ardRq ard
  try rw [afindRq_e]
  try rw [aivRq_e]
  try rw [lnRqz_e]
  try rw [apRqz_e]
  first | done | rfl
noncomputable def aqnRq (B : aB) (cs : aCs) (T : aT) (pc : Nat) (al : List (Option aV)) (r : List aV) (b : Nat) : List Nat → Option aR
  | [] => none
  | [o] => ago ((ardRq B cs T o b).1, (ardRq B cs T o b).2.1, pc, al, .inl (.inl (ardRq B cs T o b).2.2) :: r)
  | o1 :: o2 :: s => ago ((anewRq cs (ajoinRq B b (o1 :: o2 :: s))).1, T, pc, al, .inl (.inl (anewRq cs (ajoinRq B b (o1 :: o2 :: s))).2) :: r)
theorem aqnRq_e : @aqnRq = @aqn := by
  delta aqnRq aqn
  try rw [anewRq_e]
  try rw [ajoinRq_e]
  try rw [ardRq_e]
  first | done | rfl
noncomputable def aq20Rq (S : Nat → Option (Nat × Nat)) (rf : Nat → Nat → List Nat) (B : aB) (len a b c : Nat) : aX → Option aR := fun (cs, T, pc, al, st) => match st with
  | .inr l :: r => cnRqz (aallRq S l (fun _ t n => Nat.beq t (10 + a) && Nat.blt b n)) ((match c with
    | 1 => aqr rf cs T (pc + len) al r b l
    | _ => aqnRq B cs T (pc + len) al r b l)) (none)
  | _ => none
theorem aq20Rq_e : @aq20Rq = @aq20 := by
  delta aq20Rq aq20
  try rw [aallRq_e]
  try rw [aqnRq_e]
  try rw [cnRqz_e]
  first | done | rfl
noncomputable def aq21Rq (S : Nat → Option (Nat × Nat)) (B : aB) (W : Nat → Nat → Bool) (len a b c : Nat) : aX → Option aR := fun (cs, T, pc, al, st) => match st with
  | .inl (.inl x) :: .inr l :: r => cnRqz (aallRq S l (fun o t n => (Nat.beq t (10 + a) && Nat.blt b n) && (W o b && (decide ((aivRq B o b).1 ≤ (abdRq cs x).1) && decide ((abdRq cs x).2 ≤ (aivRq B o b).2)))) && (Nat.beq c 0 || (Nat.beq c 2 && (decide (0 ≤ (abdRq cs x).1) && decide ((abdRq cs x).2 ≤ 1))))) ((match l with
    | [o] => ago (cs, (o, b, x) :: T, pc + len, al, r)
    | l => ago (cs, adrop l b T, pc + len, al, r))) (none)
  | _ => none
theorem aq21Rq_e : @aq21Rq = @aq21 := by
  delta aq21Rq aq21
  try rw [abdRq_e]
  try rw [aivRq_e]
  try rw [aallRq_e]
  try rw [cnRqz_e]
  first | done | rfl
noncomputable def ainRq (S : Nat → Option (Nat × Nat)) (cs : aCs) (i : aI) (l : List Nat) (f : Nat → Nat → Bool) : Bool := decide (0 ≤ (abdRq cs i).1) && aallRq S l (fun o t n => f o t && decide ((abdRq cs i).2 < n))
theorem ainRq_e : @ainRq = @ain := by
  delta ainRq ain
  try rw [abdRq_e]
  try rw [aallRq_e]
  first | done | rfl
noncomputable def ajoinKRq (B : aB) (l : List Nat) : List Nat → Int × Int
  | [] => (1, 0)
  | [k] => ajoinRq B k l
  | k :: k2 :: ks => (min (ajoinRq B k l).1 (ajoinKRq B l (k2 :: ks)).1, max (ajoinRq B k l).2 (ajoinKRq B l (k2 :: ks)).2)
theorem ajoinKRq_e : @ajoinKRq = @ajoinK := by
  funext B_s l_s k_s
  induction k_s with
  | nil => rfl
  | cons p r ih => cases r with
    | nil => show ajoinRq B_s p l_s = ajoin B_s p l_s; rw [ajoinRq_e]
    | cons q s => simp only [ajoinKRq, ajoinK, ajoinRq_e] at ih ⊢ <;> rw [ih]
noncomputable def aq22Rq (S : Nat → Option (Nat × Nat)) (B : aB) (len : Nat) : aX → Option aR := fun (cs, T, pc, al, st) => match st with
  | .inl (.inl i) :: .inr l :: r => cnRqz (ainRq S cs i l (fun _ t => Nat.beq t 0 || Nat.beq t 5)) ((match i with
    | .inr n => aqnRq B cs T (pc + len) al r n.toNat l
    | .inl _ => cnRqz (alRqz l (aisA B)) (ago ((anewRq cs (ajoinRq B 0 l)).1, T, pc + len, al, .inl (.inl (anewRq cs (ajoinRq B 0 l)).2) :: r)) (ago ((anewRq cs (ajoinKRq B l (aixs (abdRq cs i)))).1, T, pc + len, al, .inl (.inl (anewRq cs (ajoinKRq B l (aixs (abdRq cs i)))).2) :: r)))) (none)
  | _ => none
theorem aq22Rq_e : @aq22Rq = @aq22 := by
  delta aq22Rq aq22
  try rw [abdRq_e]
  try rw [anewRq_e]
  try rw [ajoinRq_e]
  try rw [aqnRq_e]
  try rw [ainRq_e]
  try rw [ajoinKRq_e]
  try rw [alRqz_e]
  try rw [cnRqz_e]
  first | done | rfl
noncomputable def aq23Rq (S : Nat → Option (Nat × Nat)) (len : Nat) : aX → Option aR := fun (cs, T, pc, al, st) => match st with
  | .inl (.inl i) :: .inr l :: r => cnRqz (ainRq S cs i l (fun _ t => Nat.beq t 1)) (ago ((anewRq cs afulL).1, T, pc + len, al, .inl (.inr (anewRq cs afulL).2) :: r)) (none)
  | _ => none
theorem aq23Rq_e : @aq23Rq = @aq23 := by
  delta aq23Rq aq23
  try rw [anewRq_e]
  try rw [ainRq_e]
  try rw [cnRqz_e]
  first | done | rfl
noncomputable def aq24Rq (S : Nat → Option (Nat × Nat)) (rf : Nat → Nat → List Nat) (len : Nat) : aX → Option aR := fun (cs, T, pc, al, st) => match st with
  | .inl (.inl i) :: .inr l :: r => cnRqz (ainRq S cs i l (fun _ t => Nat.ble 2 t && Nat.ble t 4)) ((match arows rf l (aixs (abdRq cs i)) with
    | some m => ago (cs, T, pc + len, al, .inr m :: r)
    | none => none)) (none)
  | _ => none
theorem aq24Rq_e : @aq24Rq = @aq24 := by
  delta aq24Rq aq24
  try rw [abdRq_e]
  try rw [ainRq_e]
  try rw [cnRqz_e]
  first | done | rfl
noncomputable def afitRq (B : aB) (q p : Int × Int) (o : Nat) : Bool := cnRqz (aisA B o) (decide ((aivRq B o 0).1 ≤ p.1) && decide (p.2 ≤ (aivRq B o 0).2)) ((aixs q).all (fun k => decide ((aivRq B o k).1 ≤ p.1) && decide (p.2 ≤ (aivRq B o k).2)))
theorem afitRq_e : @afitRq = @afit := by
  delta afitRq afit
  try rw [aivRq_e]
  try rw [cnRqz_e]
  first | done | rfl
noncomputable def aq25Rq (S : Nat → Option (Nat × Nat)) (B : aB) (W : Nat → Nat → Bool) (WA : Nat → Bool) (len : Nat) : aX → Option aR := fun (cs, T, pc, al, st) => match st with
  | .inl (.inl x) :: .inl (.inl i) :: .inr l :: r => cnRqz (ainRq S cs i l (fun o t => Nat.beq t 0 && afitRq B (abdRq cs i) (abdRq cs x) o)) ((match i, l with
    | .inr n, [o] => cnRqz (W o n.toNat) (ago (cs, (o, n.toNat, x) :: T, pc + len, al, r)) (none)
    | _, _ => cnRqz (l.all WA) (ago (cs, adropR l (abdRq cs i) T, pc + len, al, r)) (none))) (none)
  | _ => none
theorem aq25Rq_e : @aq25Rq = @aq25 := by
  delta aq25Rq aq25
  try rw [abdRq_e]
  try rw [ainRq_e]
  try rw [afitRq_e]
  try rw [cnRqz_e]
  first | done | rfl
noncomputable def aq26Rq (S : Nat → Option (Nat × Nat)) (len : Nat) : aX → Option aR := fun (cs, T, pc, al, st) => match st with
  | .inl (.inr _) :: .inl (.inl i) :: .inr l :: r => cnRqz (ainRq S cs i l (fun _ t => Nat.beq t 1)) (ago (cs, T, pc + len, al, r)) (none)
  | _ => none
theorem aq26Rq_e : @aq26Rq = @aq26 := by
  delta aq26Rq aq26
  try rw [ainRq_e]
  try rw [cnRqz_e]
  first | done | rfl
noncomputable def aq28Rq (S : Nat → Option (Nat × Nat)) (len : Nat) : aX → Option aR := fun (cs, T, pc, al, st) => match st with
  | .inr (o1 :: l) :: r => (match S o1 with
    | some (_, n) => cnRqz (aallRq S (o1 :: l) (fun _ t m => Nat.ble t 5 && Nat.beq m n)) (ago (cs, T, pc + len, al, .inl (.inl (.inr (Int32.ofNat n).toInt)) :: r)) (none)
    | none => none)
  | _ => none
theorem aq28Rq_e : @aq28Rq = @aq28 := by
  delta aq28Rq aq28
  try rw [aallRq_e]
  try rw [cnRqz_e]
  first | done | rfl
noncomputable def aq35Rq (c : Nat) : aX → Option aR := fun (cs, _, _, _, st) => match st with
  | [.inl (.inl x)] => (match c with
    | 1 => cnRqz (decide (0 ≤ (abdRq cs x).1) && decide ((abdRq cs x).2 ≤ 1)) (some (.inr (.inr (some (.inl (.inl x)))))) (none)
    | _ => some (.inr (.inr (some (.inl (.inl x))))))
  | _ => none
theorem aq35Rq_e : @aq35Rq = @aq35 := by
  delta aq35Rq aq35
  try rw [abdRq_e]
  try rw [cnRqz_e]
  first | done | rfl
noncomputable def atakeRq (n : Nat) : List aV → List aV → Option (List aV × List aV) := Nat.rec (motive := fun _ => List aV → List aV → Option (List aV × List aV)) (fun acc st => some (acc, st)) (fun _ ih acc st => List.rec (motive := fun _ => Option (List aV × List aV)) none (fun v r _ => ih (v :: acc) r) st) n
theorem atakeRq_e : @atakeRq = @atake := by
  funext n_s acc_s st_s
  induction n_s generalizing acc_s st_s with
  | zero => rfl
  | succ n ih => cases st_s with
    | nil => rfl
    | cons v r => exact ih (v :: acc_s) r
noncomputable def aq32Rq (S : Nat → Option (Nat × Nat)) (len a b c ci : Nat) : aX → Option aR := fun (cs, T, pc, al, st) => match atakeRq b [] st with
  | some (as, r) => cnRqz (Nat.ble (acat r) 8) ((match c with
    | 1 => some (.inr (.inl (a, as, (cs, T, pc + len, al, r))))
    | _ => (match as with
      | .inr l :: _ => cnRqz (aallRq S l (fun _ t _ => Nat.beq t (10 + ci))) (some (.inr (.inl (a, as, (cs, T, pc + len, al, r))))) (none)
      | _ => none))) (none)
  | none => none
theorem aq32Rq_e : @aq32Rq = @aq32 := by
  delta aq32Rq aq32
  try rw [aallRq_e]
  try rw [atakeRq_e]
  try rw [cnRqz_e]
  first | done | rfl
noncomputable def aq31aRq (len : Nat) : aX → Option aR := fun (cs, T, pc, al, st) => match st with
  | .inl (.inl y) :: .inl (.inl x) :: r => cnRqz (Nat.ble (acat r) 8) (ago ((anewRq cs (max (abdRq cs x).1 (abdRq cs y).1, max (abdRq cs x).2 (abdRq cs y).2)).1, T, pc + len, al, .inl (.inl (anewRq cs (max (abdRq cs x).1 (abdRq cs y).1, max (abdRq cs x).2 (abdRq cs y).2)).2) :: r)) (none)
  | _ => none
theorem aq31aRq_e : @aq31aRq = @aq31a := by
  delta aq31aRq aq31a
  try rw [abdRq_e]
  try rw [anewRq_e]
  try rw [cnRqz_e]
  first | done | rfl
noncomputable def aq31bRq (len : Nat) : aX → Option aR := fun (cs, T, pc, al, st) => match st with
  | .inl (.inl y) :: .inl (.inl x) :: r => cnRqz (Nat.ble (acat r) 8) (ago ((anewRq cs (min (abdRq cs x).1 (abdRq cs y).1, min (abdRq cs x).2 (abdRq cs y).2)).1, T, pc + len, al, .inl (.inl (anewRq cs (min (abdRq cs x).1 (abdRq cs y).1, min (abdRq cs x).2 (abdRq cs y).2)).2) :: r)) (none)
  | _ => none
theorem aq31bRq_e : @aq31bRq = @aq31b := by
  delta aq31bRq aq31b
  try rw [abdRq_e]
  try rw [anewRq_e]
  try rw [cnRqz_e]
  first | done | rfl
noncomputable def aq31cRq (len : Nat) : aX → Option aR := fun (cs, T, pc, al, st) => match st with
  | .inl (.inl x) :: r => cnRqz (Nat.ble (acat r) 8 && decide (-2147483647 ≤ (abdRq cs x).1)) (ago ((anewRq cs (0, max (-(abdRq cs x).1) (abdRq cs x).2)).1, T, pc + len, al, .inl (.inl (anewRq cs (0, max (-(abdRq cs x).1) (abdRq cs x).2)).2) :: r)) (none)
  | _ => none
theorem aq31cRq_e : @aq31cRq = @aq31c := by
  delta aq31cRq aq31c
  try rw [abdRq_e]
  try rw [anewRq_e]
  try rw [cnRqz_e]
  first | done | rfl
noncomputable def aq31Rq (len b : Nat) (X : aX) : Option aR := match b with
  | 0 => aq31aRq len X
  | 1 => aq31bRq len X
  | _ => aq31cRq len X
theorem aq31Rq_e : @aq31Rq = @aq31 := by
  delta aq31Rq aq31
  try rw [aq31aRq_e]
  try rw [aq31bRq_e]
  try rw [aq31cRq_e]
  first | done | rfl
noncomputable def aq34iRq (S : Nat → Option (Nat × Nat)) (B : aB) (WA : Nat → Bool) (len : Nat) : aX → Option aR := fun (cs, T, pc, al, st) => match st with
  | .inl (.inl n) :: .inl (.inl dp) :: .inr l1 :: .inl (.inl sp) :: .inr l0 :: r => cnRqz ((Nat.ble (acat r) 8 && ((decide (0 ≤ (abdRq cs n).1) && decide ((abdRq cs n).2 < 100000)) && ((decide (0 ≤ (abdRq cs sp).1) && decide ((abdRq cs sp).2 < 100000)) && (decide (0 ≤ (abdRq cs dp).1) && decide ((abdRq cs dp).2 < 100000))))) && (aallRq S l0 (fun o t m => (Nat.beq t 0 && aisA B o) && decide ((abdRq cs sp).2 + (abdRq cs n).2 ≤ m)) && aallRq S l1 (fun o t m => ((Nat.beq t 0 && aisA B o) && decide ((abdRq cs dp).2 + (abdRq cs n).2 ≤ m)) && (WA o && alRqz l0 (fun q => decide ((aivRq B o 0).1 ≤ (aivRq B q 0).1) && decide ((aivRq B q 0).2 ≤ (aivRq B o 0).2)))))) (ago (cs, adropA l1 T, pc + len, al, r)) (none)
  | _ => none
theorem aq34iRq_e : @aq34iRq = @aq34i := by
  delta aq34iRq aq34i
  try rw [abdRq_e]
  try rw [aivRq_e]
  try rw [aallRq_e]
  try rw [alRqz_e]
  try rw [cnRqz_e]
  first | done | rfl
noncomputable def aq34lRq (S : Nat → Option (Nat × Nat)) (len : Nat) : aX → Option aR := fun (cs, T, pc, al, st) => match st with
  | .inl (.inl n) :: .inl (.inl dp) :: .inr l1 :: .inl (.inl sp) :: .inr l0 :: r => cnRqz ((Nat.ble (acat r) 8 && ((decide (0 ≤ (abdRq cs n).1) && decide ((abdRq cs n).2 < 100000)) && ((decide (0 ≤ (abdRq cs sp).1) && decide ((abdRq cs sp).2 < 100000)) && (decide (0 ≤ (abdRq cs dp).1) && decide ((abdRq cs dp).2 < 100000))))) && (aallRq S l0 (fun _ t m => Nat.beq t 1 && decide ((abdRq cs sp).2 + (abdRq cs n).2 ≤ m)) && aallRq S l1 (fun _ t m => Nat.beq t 1 && decide ((abdRq cs dp).2 + (abdRq cs n).2 ≤ m)))) (ago (cs, T, pc + len, al, r)) (none)
  | _ => none
theorem aq34lRq_e : @aq34lRq = @aq34l := by
  delta aq34lRq aq34l
  try rw [abdRq_e]
  try rw [aallRq_e]
  try rw [cnRqz_e]
  first | done | rfl
noncomputable def aq34Rq (S : Nat → Option (Nat × Nat)) (B : aB) (WA : Nat → Bool) (len : Nat) (X : aX) : Option aR := match aq34iRq S B WA len X with
  | some r => some r
  | none => aq34lRq S len X
theorem aq34Rq_e : @aq34Rq = @aq34 := by
  delta aq34Rq aq34
  try rw [aq34iRq_e]
  try rw [aq34lRq_e]
  first | done | rfl
noncomputable def aq21rRq (S : Nat → Option (Nat × Nat)) (rf : Nat → Nat → List Nat) (len a b c : Nat) : aX → Option aR := fun (cs, T, pc, al, st) => match st with
  | .inr m :: .inr l :: r => cnRqz ((aallRq S l (fun o t n => (Nat.beq t (10 + a) && Nat.blt b n) && alRqz m (fun q => (rf o b).elem q))) && Nat.beq c 1) (ago (cs, T, pc + len, al, r)) (none)
  | _ => none
theorem aq21rRq_e : @aq21rRq = @aq21r := by
  delta aq21rRq aq21r
  try rw [aallRq_e]
  try rw [alRqz_e]
  try rw [cnRqz_e]
  first | done | rfl
noncomputable def aq21xRq (S : Nat → Option (Nat × Nat)) (rf : Nat → Nat → List Nat) (B : aB) (W : Nat → Nat → Bool) (len a b c : Nat) (X : aX) : Option aR := match aq21Rq S B W len a b c X with
  | some r => some r
  | none => aq21rRq S rf len a b c X
theorem aq21xRq_e : @aq21xRq = @aq21x := by
  delta aq21xRq aq21x
  try rw [aq21Rq_e]
  try rw [aq21rRq_e]
  first | done | rfl
noncomputable def astepFRq (S : Nat → Option (Nat × Nat)) (rf : Nat → Nat → List Nat) (B : aB) (W : Nat → Nat → Bool) (WA : Nat → Bool) : zI → aX → Option aR := fun (op, len, a, b, c, v, sw) X => cnRqz (Nat.blt op 45) ((cnRqz (Nat.blt op 22) ((cnRqz (Nat.blt op 11) ((cnRqz (Nat.blt op 5) ((cnRqz (Nat.blt op 2) ((cnRqz (Nat.blt op 1) (aq0 len v X) (aq1Rq len a X))) ((cnRqz (Nat.blt op 3) (aq2Rq len a X) ((cnRqz (Nat.blt op 4) (aq3Rq len a X) (aq4Rq len a X))))))) ((cnRqz (Nat.blt op 8) ((cnRqz (Nat.blt op 6) (aq5Rq len a X) ((cnRqz (Nat.blt op 7) (aq6Rq len a X) (aq7Rq len b X))))) ((cnRqz (Nat.blt op 9) (aq8Rq len b X) ((cnRqz (Nat.blt op 10) (aq9Rq len b X) (aq10 len X))))))))) ((cnRqz (Nat.blt op 16) ((cnRqz (Nat.blt op 13) ((cnRqz (Nat.blt op 12) (aq11Rq len X) (aq12Rq len X))) ((cnRqz (Nat.blt op 14) (aq13Rq len X) ((cnRqz (Nat.blt op 15) (aq14Rq len X) (aq15Rq len a b X))))))) ((cnRqz (Nat.blt op 19) ((cnRqz (Nat.blt op 17) (aq16Rq len a b X) ((cnRqz (Nat.blt op 18) (aq17 a X) (aq18Rq a sw X))))) ((cnRqz (Nat.blt op 20) (aq19Rq len a v X) ((cnRqz (Nat.blt op 21) (aq20Rq S rf B len a b c X) (aq21xRq S rf B W len a b c X))))))))))) ((cnRqz (Nat.blt op 33) ((cnRqz (Nat.blt op 27) ((cnRqz (Nat.blt op 24) ((cnRqz (Nat.blt op 23) (aq22Rq S B len X) (aq23Rq S len X))) ((cnRqz (Nat.blt op 25) (aq24Rq S rf len X) ((cnRqz (Nat.blt op 26) (aq25Rq S B W WA len X) (aq26Rq S len X))))))) ((cnRqz (Nat.blt op 30) ((cnRqz (Nat.blt op 28) (none) ((cnRqz (Nat.blt op 29) (aq28Rq S len X) (none))))) ((cnRqz (Nat.blt op 31) (none) ((cnRqz (Nat.blt op 32) (aq31Rq len b X) (none))))))))) ((cnRqz (Nat.blt op 39) ((cnRqz (Nat.blt op 36) ((cnRqz (Nat.blt op 34) (none) ((cnRqz (Nat.blt op 35) (aq34Rq S B WA len X) (none))))) (none))) ((cnRqz (Nat.blt op 42) ((cnRqz (Nat.blt op 40) (aq39Rq len X) ((cnRqz (Nat.blt op 41) (aq40Rq len X) (aq41Rq len X))))) ((cnRqz (Nat.blt op 43) (aq42Rq len X) ((cnRqz (Nat.blt op 44) (aq43 len a X) (aq44Rq len X))))))))))))) (none)
theorem astepFRq_e : @astepFRq = @astepF := by
  delta astepFRq astepF
  try rw [aq1Rq_e]
  try rw [aq2Rq_e]
  try rw [aq3Rq_e]
  try rw [aq4Rq_e]
  try rw [aq5Rq_e]
  try rw [aq6Rq_e]
  try rw [aq7Rq_e]
  try rw [aq8Rq_e]
  try rw [aq9Rq_e]
  try rw [aq11Rq_e]
  try rw [aq12Rq_e]
  try rw [aq13Rq_e]
  try rw [aq14Rq_e]
  try rw [aq15Rq_e]
  try rw [aq16Rq_e]
  try rw [aq18Rq_e]
  try rw [aq19Rq_e]
  try rw [aq39Rq_e]
  try rw [aq40Rq_e]
  try rw [aq41Rq_e]
  try rw [aq42Rq_e]
  try rw [aq44Rq_e]
  try rw [aq20Rq_e]
  try rw [aq22Rq_e]
  try rw [aq23Rq_e]
  try rw [aq24Rq_e]
  try rw [aq25Rq_e]
  try rw [aq26Rq_e]
  try rw [aq28Rq_e]
  try rw [aq31Rq_e]
  try rw [aq34Rq_e]
  try rw [aq21xRq_e]
  try rw [cnRqz_e]
  first | done | rfl
noncomputable def astepRRq : zI → aX → Option aR := fun (op, _, _, _, c, _, _) X => cnRqz (Nat.blt op 35) (none) (cnRqz (Nat.beq op 35) (aq35Rq c X) (cnRqz (Nat.beq op 36) (aq36 X) (cnRqz (Nat.beq op 37) (aq37 X) (cnRqz (Nat.beq op 38) (aq38 X) (none)))))
theorem astepRRq_e : @astepRRq = @astepR := by
  delta astepRRq astepR
  try rw [aq35Rq_e]
  try rw [cnRqz_e]
  first | done | rfl
noncomputable def astepCRq (S : Nat → Option (Nat × Nat)) : zI → aX → Option aR := fun (op, len, a, b, c, _, _) X => cnRqz (Nat.beq op 32) (aq32Rq S len a b (c % 4) (c / 4) X) (none)
theorem astepCRq_e : @astepCRq = @astepC := by
  delta astepCRq astepC
  try rw [aq32Rq_e]
  try rw [cnRqz_e]
  first | done | rfl
noncomputable def aokRq (cs : aCs) : aI → Bool
  | .inl (k, _) => Nat.blt k (lnRqz cs)
  | .inr _ => true
theorem aokRq_e : @aokRq = @aok := by
  delta aokRq aok
  try rw [lnRqz_e]
  first | done | rfl
noncomputable def amIRq (sg : List aI) (cs : aCs) (a b : aI) : Bool := match a with
  | .inl (k, off) => (match zgetRq sg k with
    | some s => aeqI (aoff off s) b
    | none => false)
  | .inr n => ieq (abdRq cs b).1 n && ieq (abdRq cs b).2 n
theorem amIRq_e : @amIRq = @amI := by
  delta amIRq amI
  try rw [zgetRq_e]
  try rw [abdRq_e]
  first | done | rfl
noncomputable def amVRq (sg : List aI) (cs : aCs) : aV → aV → Bool
  | .inl (.inl a), .inl (.inl b) => amIRq sg cs a b
  | .inl (.inr a), .inl (.inr b) => amIRq sg cs a b
  | .inr l, .inr l' => alRqz l' l.elem
  | _, _ => false
theorem amVRq_e : @amVRq = @amV := by
  delta amVRq amV
  try rw [amIRq_e]
  try rw [alRqz_e]
  first | done | rfl
noncomputable def amSRq (sg : List aI) (cs : aCs) : List aV → List aV → Bool
  | [], [] => true
  | a :: r, b :: s => amVRq sg cs a b && amSRq sg cs r s
  | _, _ => false
theorem amSRq_e : @amSRq = @amS := by
  funext sg_s cs_s A_s s_s
  induction A_s generalizing s_s with
  | nil => cases s_s <;> rfl
  | cons q r ih => cases s_s with
    | nil => rfl
    | cons s0 sr =>
      show (amVRq sg_s cs_s q s0 && amSRq sg_s cs_s r sr) = (amV sg_s cs_s q s0 && amS sg_s cs_s r sr)
      rw [ih, amVRq_e]
noncomputable def amLRq (sg : List aI) (cs : aCs) (A : List (Option aV)) : List (Option aV) → Bool := List.rec (motive := fun _ => List (Option aV) → Bool) (fun s => List.rec (motive := fun _ => Bool) true (fun _ _ _ => false) s) (fun q _ ih s => List.rec (motive := fun _ => Bool) false (fun s0 sr _ => Option.rec (motive := fun _ => Bool) (ih sr) (fun a => Option.rec (motive := fun _ => Bool) false (fun b => Bool.rec (motive := fun _ => Bool) false (ih sr) (amVRq sg cs a b)) s0) q) s) A
theorem amLRq_e : @amLRq = @amL := by
  funext sg_s cs_s A_s s_s
  induction A_s generalizing s_s with
  | nil => cases s_s <;> rfl
  | cons q r ih => cases s_s with
    | nil => cases q <;> rfl
    | cons s0 sr => cases q with
      | none => exact ih sr
      | some a => cases s0 with
        | none => rfl
        | some b =>
          show Bool.rec (motive := fun _ => Bool) false (amLRq sg_s cs_s r sr) (amVRq sg_s cs_s a b) = (amV sg_s cs_s a b && amL sg_s cs_s r sr)
          rw [ih, amVRq_e]
          cases amV sg_s cs_s a b <;> rfl
noncomputable def amTRq (sg : List aI) (cs : aCs) (T : aT) (A : aT) : Bool := List.rec (motive := fun _ => Bool) true (fun p _ ih => Option.rec (motive := fun _ => Bool) false (fun b => Bool.rec (motive := fun _ => Bool) false ih (amIRq sg cs p.2.2 b)) (afindRq T p.1 p.2.1)) A
theorem amTRq_e : @amTRq = @amT := by
  funext sg_s cs_s T_s A_s
  induction A_s with
  | nil => rfl
  | cons p r ih =>
    show Option.rec (motive := fun _ => Bool) false (fun b => Bool.rec (motive := fun _ => Bool) false (amTRq sg_s cs_s T_s r) (amIRq sg_s cs_s p.2.2 b)) (afindRq T_s p.1 p.2.1) = ((match afind T_s p.1 p.2.1 with
      | some b => amI sg_s cs_s p.2.2 b
      | none => false) && amT sg_s cs_s T_s r)
    rw [ih, amIRq_e, afindRq_e]
    cases afind T_s p.1 p.2.1 with
    | none => rfl
    | some b => exact brq_and
noncomputable def amBRq (cs : aCs) (A : aCs) : List aI → Bool := List.rec (motive := fun _ => List aI → Bool) (fun s => List.rec (motive := fun _ => Bool) true (fun _ _ _ => false) s) (fun q _ ih s => List.rec (motive := fun _ => Bool) false (fun s0 sg _ => Bool.rec (motive := fun _ => Bool) false (Bool.rec (motive := fun _ => Bool) false (Bool.rec (motive := fun _ => Bool) false (ih sg) (ile (abdRq cs s0).2 q.2)) (ile q.1 (abdRq cs s0).1)) (aokRq cs s0)) s) A
theorem amBRq_e : @amBRq = @amB := by
  funext cs_s A_s s_s
  induction A_s generalizing s_s with
  | nil => cases s_s <;> rfl
  | cons q r ih => cases s_s with
    | nil => rfl
    | cons s0 sg =>
      show Bool.rec (motive := fun _ => Bool) false (Bool.rec (motive := fun _ => Bool) false (Bool.rec (motive := fun _ => Bool) false (amBRq cs_s r sg) (ile (abdRq cs_s s0).2 q.2)) (ile q.1 (abdRq cs_s s0).1)) (aokRq cs_s s0) = ((aok cs_s s0 && (ile q.1 (abd cs_s s0).1 && ile (abd cs_s s0).2 q.2)) && amB cs_s r sg)
      rw [ih, abdRq_e, aokRq_e]
      cases aok cs_s s0 <;> cases ile q.1 (abd cs_s s0).1 <;> cases ile (abd cs_s s0).2 q.2 <;> rfl
noncomputable def ameetRq (sg : List aI) (A X : aX) : Bool := (amBRq X.1 A.1 sg && Nat.beq A.2.2.1 X.2.2.1) && (amLRq sg X.1 A.2.2.2.1 X.2.2.2.1 && (amSRq sg X.1 A.2.2.2.2 X.2.2.2.2 && amTRq sg X.1 X.2.1 A.2.1))
theorem ameetRq_e : @ameetRq = @ameet := by
  delta ameetRq ameet
  try rw [amSRq_e]
  try rw [amLRq_e]
  try rw [amTRq_e]
  try rw [amBRq_e]
  first | done | rfl
noncomputable def asLRq (A : List (Option aV)) : List (Option aV) → List (Nat × aI) → List (Nat × aI) := List.rec (motive := fun _ => List (Option aV) → List (Nat × aI) → List (Nat × aI)) (fun _ sg => sg) (fun q _ ih s sg => List.rec (motive := fun _ => List (Nat × aI)) sg (fun s0 sr _ => Option.rec (motive := fun _ => List (Nat × aI)) (ih sr sg) (fun a => Option.rec (motive := fun _ => List (Nat × aI)) (ih sr sg) (fun b => asV a b (ih sr sg)) s0) q) s) A
theorem asLRq_e : @asLRq = @asL := by
  funext A_s s_s sg_s
  induction A_s generalizing s_s sg_s with
  | nil => cases s_s <;> rfl
  | cons q r ih => cases s_s with
    | nil => cases q <;> rfl
    | cons s0 sr => cases q with
      | none => exact ih sr sg_s
      | some a => cases s0 with
        | none => exact ih sr sg_s
        | some b => exact congrArg (asV a b) (ih sr sg_s)
noncomputable def asTRq (T : aT) : aT → List (Nat × aI) → List (Nat × aI)
  | (o, k, a) :: r, sg => (match afindRq T o k with
    | some b => asI a b (asTRq T r sg)
    | none => asTRq T r sg)
  | [], sg => sg
theorem asTRq_e : @asTRq = @asT := by
  funext T_s l_s sg_s
  induction l_s generalizing sg_s with
  | nil => first | rfl | simp only [asTRq, asT]
  | cons p r ih => simp only [asTRq, asT, afindRq_e, ih] <;> first | rfl | (split <;> rfl)
noncomputable def asFRq (l : List (Nat × aI)) (k : Nat) : aI := List.rec (motive := fun _ => aI) (.inr 0) (fun p _ ih => Bool.rec (motive := fun _ => aI) ih p.2 (Nat.beq p.1 k)) l
theorem asFRq_e : @asFRq = @asF := by
  funext l_s k_s
  induction l_s with
  | nil => rfl
  | cons p r ih =>
    show Bool.rec (motive := fun _ => aI) (asFRq r k_s) p.2 (Nat.beq p.1 k_s) = bif Nat.beq p.1 k_s then p.2 else asF r k_s
    rw [ih]
    cases Nat.beq p.1 k_s <;> rfl
noncomputable def asgRq (A X : aX) : List aI :=
  let l := asLRq A.2.2.2.1 X.2.2.2.1 (asS A.2.2.2.2 X.2.2.2.2 (asTRq X.2.1 A.2.1 []))
  (List.range (lnRqz A.1)).map (asFRq l)
theorem asgRq_e : @asgRq = @asg := by
  delta asgRq asg
  try rw [asLRq_e]
  try rw [asTRq_e]
  try rw [asFRq_e]
  try rw [lnRqz_e]
  first | done | rfl
noncomputable def almuRq (b : Bool) (x y : Int) : Int := cnRqz (b) (imaxRq 0 (-x)) (imaxRq 0 (iminRq (-x) y))
theorem almuRq_e : @almuRq = @almu := by
  delta almuRq almu
  try rw [imaxRq_e]
  try rw [iminRq_e]
  try rw [cnRqz_e]
  first | done | rfl
noncomputable def alfsRq (b : Bool) : aD → Int × aLn → Int × aLn
  | [], p => p
  | (k, j, c) :: r, p => alfsRq b r (p.1 - almuRq b (alco k p.2) (alco j p.2) * c, alad (almuRq b (alco k p.2) (alco j p.2)) k (alad (-(almuRq b (alco k p.2) (alco j p.2))) j p.2))
theorem alfsRq_e : @alfsRq = @alfs := by
  funext b_s l_s p_s
  induction l_s generalizing p_s with
  | nil => first | rfl | simp only [alfsRq, alfs]
  | cons p r ih => simp only [alfsRq, alfs, almuRq_e, ih] <;> first | rfl | (split <;> rfl)
noncomputable def alupRq (cs : aCs) : aLn → Option Int
  | [] => some 0
  | (c, k) :: r => (match zgetRq cs k, alupRq cs r with
    | some q, some u => some ((bif ile 0 c then c * q.2 else c * q.1) + u)
    | _, _ => none)
theorem alupRq_e : @alupRq = @alup := by
  funext cs_s l_s
  induction l_s with
  | nil => first | rfl | simp only [alupRq, alup]
  | cons p r ih => simp only [alupRq, alup, zgetRq_e, ih] <;> first | rfl | (split <;> rfl)
noncomputable def ale1Rq (b : Bool) (cs : aCs) (ds : aD) (p : Int × aLn) : Bool := match alupRq cs (alfsRq b ds p).2 with
  | some u => ile ((alfsRq b ds p).1 + u) 0
  | none => false
theorem ale1Rq_e : @ale1Rq = @ale1 := by
  delta ale1Rq ale1
  try rw [alfsRq_e]
  try rw [alupRq_e]
  first | done | rfl
noncomputable def ale0Rq (cs : aCs) (ds : aD) (p : Int × aLn) : Bool := ale1Rq false cs ds p || ale1Rq true cs ds p
theorem ale0Rq_e : @ale0Rq = @ale0 := by
  delta ale0Rq ale0
  try rw [ale1Rq_e]
  first | done | rfl
noncomputable def alsgRq (sg : List aI) : aLn → Int × aLn → Int × aLn
  | [], p => p
  | (c, k) :: r, p => alsgRq sg r (match zgetRq sg k with
    | some a => alI c a p
    | none => p)
theorem alsgRq_e : @alsgRq = @alsg := by
  funext sg_s l_s p_s
  induction l_s generalizing p_s with
  | nil => first | rfl | simp only [alsgRq, alsg]
  | cons p r ih => simp only [alsgRq, alsg, zgetRq_e, ih] <;> first | rfl | (split <;> rfl)
noncomputable def adsMRq (sg : List aI) (cs : aCs) (ds : aD) : aD → Bool
  | [] => true
  | (k, j, c) :: r => (match zgetRq sg k, zgetRq sg j with
    | some a, some b => ale0Rq cs ds (alI 1 b (alI (-1) a (c, [])))
    | _, _ => false) && adsMRq sg cs ds r
theorem adsMRq_e : @adsMRq = @adsM := by
  funext sg_s cs_s ds_s l_s
  induction l_s with
  | nil => first | rfl | simp only [adsMRq, adsM]
  | cons p r ih => simp only [adsMRq, adsM, zgetRq_e, ale0Rq_e, ih] <;> first | rfl | (split <;> rfl)
noncomputable def aprRq : aDf → aCs → Option aCs
  | [], cs => some cs
  | (k, a, b) :: r, cs => (match zgetRq cs k with
    | some q => (match arfRq cs b ((abdRq cs a).1 - q.2, (abdRq cs a).2 - q.1) with
      | some c => aprRq r c
      | none => none)
    | none => aprRq r cs)
theorem aprRq_e : @aprRq = @apr := by
  funext l_s cs_s
  induction l_s generalizing cs_s with
  | nil => first | rfl | simp only [aprRq, apr]
  | cons p r ih => simp only [aprRq, apr, zgetRq_e, abdRq_e, arfRq_e, ih] <;> first | rfl | (split <;> rfl)
noncomputable def aprqRq : aDq → aCs → Option aCs
  | [], cs => some cs
  | (k, b, x, d) :: r, cs => bif decide ((abdRq cs x).1 = (abdRq cs x).2) then (match arfRq cs (.inl (k, 0)) ((zdv b (Int32.ofInt (abdRq cs x).1) (Int32.ofInt d)).toInt, (zdv b (Int32.ofInt (abdRq cs x).1) (Int32.ofInt d)).toInt) with
    | some c => aprqRq r c
    | none => none) else bif (Nat.beq b 0 && decide (0 < (Int32.ofInt d).toInt)) && decide (0 ≤ (abdRq cs (.inl (k, 0))).2) then (match arfRq cs x (-abig, (abdRq cs (.inl (k, 0))).2 * (Int32.ofInt d).toInt + (Int32.ofInt d).toInt - 1) with
    | some c => aprqRq r c
    | none => none) else aprqRq r cs
theorem aprqRq_e : @aprqRq = @aprq := by
  funext l_s cs_s
  induction l_s generalizing cs_s with
  | nil => first | rfl | simp only [aprqRq, aprq]
  | cons p r ih => simp only [aprqRq, aprq, abdRq_e, arfRq_e, ih] <;> first | rfl | (split <;> rfl)
noncomputable def aargsRq (l : List aV) : List (Option aV) := List.rec (motive := fun _ => List (Option aV)) [] (fun v _ ih => Bool.rec (motive := fun _ => List (Option aV)) (some v :: ih) (some v :: none :: ih) (aisL v)) l
theorem aargsRq_e : @aargsRq = @aargs := by
  funext l_s
  induction l_s with
  | nil => rfl
  | cons v r ih =>
    show Bool.rec (motive := fun _ => List (Option aV)) (some v :: aargsRq r) (some v :: none :: aargsRq r) (aisL v) = bif aisL v then some v :: none :: aargs r else some v :: aargs r
    rw [ih]
    cases aisL v <;> rfl
noncomputable def apadRq (n : Nat) : List (Option aV) → List (Option aV) := Nat.rec (motive := fun _ => List (Option aV) → List (Option aV)) (fun l => l) (fun _ ih l => List.rec (motive := fun _ => List (Option aV)) (none :: ih []) (fun a r _ => a :: ih r) l) n
theorem apadRq_e : @apadRq = @apad := by
  funext n_s l_s
  induction n_s generalizing l_s with
  | zero => rfl
  | succ n ih => cases l_s with
    | nil => exact congrArg (List.cons none) (ih [])
    | cons a r => exact congrArg (List.cons a) (ih r)
noncomputable def an1Rq (cs : aCs) : aV → aV
  | .inl (.inl (.inl (k, o))) => (match zgetRq cs k with
    | some q => cnRqz (ieq q.1 q.2) (.inl (.inl (.inr (q.1 + o)))) (.inl (.inl (.inl (k, o))))
    | none => .inl (.inl (.inl (k, o))))
  | v => v
theorem an1Rq_e : @an1Rq = @an1 := by
  delta an1Rq an1
  try rw [zgetRq_e]
  try rw [cnRqz_e]
  first | done | rfl
noncomputable def anrmRq (X : aX) : aX := (X.1, X.2.1, X.2.2.1, X.2.2.2.1, X.2.2.2.2.map (an1Rq X.1))
theorem anrmRq_e : @anrmRq = @anrm := by
  delta anrmRq anrm
  try rw [an1Rq_e]
  first | done | rfl
noncomputable def asp2Rq (X : aX) (a : aI) (l h : Int) (w : Nat) : List aX := aoptRq (fun c => (c, X.2)) (arfRq X.1 a (-abig, l - 1)) ++ (aoptRq (fun c => (c, X.2)) (arfRq X.1 a (h + 1, abig)) ++ (List.range ((h - l).toNat / (w + 1) + 1)).flatMap (fun (n : Nat) => aoptRq (fun c => (c, X.2)) (arfRq X.1 a (l + ((n * (w + 1) : Nat) : Int), l + ((n * (w + 1) + w : Nat) : Int)))))
theorem asp2Rq_e : @asp2Rq = @asp2 := by
  delta asp2Rq asp2
  try rw [arfRq_e]
  try rw [aoptRq_e]
  first | done | rfl
noncomputable def asplRq (X : aX) (p : Nat × Int × Int × Nat) : List aX := match zgetRq X.2.2.2.1 p.1 with
  | some (some (.inl (.inl a))) => asp2Rq X a (imaxRq p.2.1 (abdRq X.1 a).1) (iminRq p.2.2.1 (abdRq X.1 a).2) p.2.2.2
  | some (some (.inr l)) => l.map (fun o => (X.1, X.2.1, X.2.2.1, zputRq X.2.2.2.1 p.1 (some (.inr [o])), X.2.2.2.2))
  | _ => [X]
theorem asplRq_e : @asplRq = @aspl := by
  delta asplRq aspl
  try rw [zgetRq_e]
  try rw [zputRq_e]
  try rw [abdRq_e]
  try rw [imaxRq_e]
  try rw [iminRq_e]
  try rw [asp2Rq_e]
  first | done | rfl
noncomputable def awpRq (l : List (Nat × Nat)) (o k : Nat) : Bool := List.rec (motive := fun _ => Bool) false (fun p _ ih => Bool.rec (motive := fun _ => Bool) ih (Bool.rec (motive := fun _ => Bool) ih true (Nat.beq p.2 k)) (Nat.beq p.1 o)) l
theorem awpRq_e : @awpRq = @awp := by
  funext l_s o_s k_s
  induction l_s with
  | nil => rfl
  | cons p r ih =>
    show Bool.rec (motive := fun _ => Bool) (awpRq r o_s k_s) (Bool.rec (motive := fun _ => Bool) (awpRq r o_s k_s) true (Nat.beq p.2 k_s)) (Nat.beq p.1 o_s) = ((Nat.beq p.1 o_s && Nat.beq p.2 k_s) || awp r o_s k_s)
    rw [ih]
    cases Nat.beq p.1 o_s <;> cases Nat.beq p.2 k_s <;> cases awp r o_s k_s <;> rfl
noncomputable def aweRq (l : List Nat) (o : Nat) : Bool := List.rec (motive := fun _ => Bool) false (fun p _ ih => Bool.rec (motive := fun _ => Bool) ih true (Nat.beq p o)) l
theorem aweRq_e : @aweRq = @awe := by
  funext l_s o_s
  induction l_s with
  | nil => rfl
  | cons p r ih =>
    show Bool.rec (motive := fun _ => Bool) (aweRq r o_s) true (Nat.beq p o_s) = (Nat.beq p o_s || awe r o_s)
    rw [ih]
    cases Nat.beq p o_s <;> rfl
noncomputable def aWARq (W : aW) (o : Nat) : Bool := !Nat.beq o 0 && aweRq W.2 o
theorem aWARq_e : @aWARq = @aWA := by
  delta aWARq aWA
  try rw [aweRq_e]
  first | done | rfl
noncomputable def aWfRq (W : aW) (o k : Nat) : Bool := !Nat.beq o 0 && (aweRq W.2 o || awpRq W.1 o k)
theorem aWfRq_e : @aWfRq = @aWf := by
  delta aWfRq aWf
  try rw [awpRq_e]
  try rw [aweRq_e]
  first | done | rfl
noncomputable def awsubRq (V W : aW) : Bool := alRqz V.2 (aWARq W) && alRqz V.1 (fun p => aWfRq W p.1 p.2)
theorem awsubRq_e : @awsubRq = @awsub := by
  delta awsubRq awsub
  try rw [aWARq_e]
  try rw [aWfRq_e]
  try rw [alRqz_e]
  first | done | rfl
noncomputable def awnRq (W : aW) : aW := (W.1.filter (fun p => !aWfRq aJJ p.1 p.2), W.2.filter (fun o => !(aweRq [102, 104, 105, 106] o)))
theorem awnRq_e : @awnRq = @awn := by
  delta awnRq awn
  try rw [aweRq_e]
  try rw [aWfRq_e]
  first | done | rfl
noncomputable def atrRq (sg : List aI) (n : Nat) (a : aI) : aI := match a with
  | .inl (k, o) => (match zgetRq sg k with
    | some s => aoff o s
    | none => .inl (n + (k - (lnRqz sg)), o))
  | .inr c => .inr c
theorem atrRq_e : @atrRq = @atr := by
  delta atrRq atr
  try rw [zgetRq_e]
  try rw [lnRqz_e]
  first | done | rfl
noncomputable def atrVRq (sg : List aI) (n : Nat) : aV → aV
  | .inl (.inl a) => .inl (.inl (atrRq sg n a))
  | .inl (.inr a) => .inl (.inr (atrRq sg n a))
  | .inr l => .inr l
theorem atrVRq_e : @atrVRq = @atrV := by
  delta atrVRq atrV
  try rw [atrRq_e]
  first | done | rfl
noncomputable def atrTRq (sg : List aI) (n : Nat) : aT → aT → aT
  | [], T => T
  | (o, k, a) :: r, T => (o, k, atrRq sg n a) :: atrTRq sg n r T
theorem atrTRq_e : @atrTRq = @atrT := by
  funext sg_s n_s l_s T_s
  induction l_s with
  | nil => first | rfl | simp only [atrTRq, atrT]
  | cons p r ih => simp only [atrTRq, atrT, atrRq_e, ih] <;> first | rfl | (split <;> rfl)
noncomputable def atfRq (W : aW) (T : aT) : aT := List.rec (motive := fun _ => aT) [] (fun p _ ih => Bool.rec (motive := fun _ => aT) (p :: ih) ih (aWfRq W p.1 p.2.1)) T
theorem atfRq_e : @atfRq = @atf := by
  funext W_s l_s
  induction l_s with
  | nil => rfl
  | cons p r ih =>
    show Bool.rec (motive := fun _ => aT) (p :: atfRq W_s r) (atfRq W_s r) (aWfRq W_s p.1 p.2.1) = bif aWf W_s p.1 p.2.1 then atf W_s r else p :: atf W_s r
    rw [ih, aWfRq_e]
    cases aWf W_s p.1 p.2.1 <;> rfl
noncomputable def atrDRq (sg : List aI) (n : Nat) : aD → aD → aD
  | [], ds => ds
  | (k, j, c) :: r, ds => (match atrRq sg n (.inl (k, 0)), atrRq sg n (.inl (j, 0)) with
    | .inl (k', o1), .inl (j', o2) => (k', j', c + o2 - o1) :: atrDRq sg n r ds
    | _, _ => atrDRq sg n r ds)
theorem atrDRq_e : @atrDRq = @atrD := by
  funext sg_s n_s l_s ds_s
  induction l_s with
  | nil => first | rfl | simp only [atrDRq, atrD]
  | cons p r ih => simp only [atrDRq, atrD, atrRq_e, ih] <;> first | rfl | (split <;> rfl)
noncomputable def atrRRq (sg : List aI) (n : Nat) : aDr → aDr → aDr
  | [], dr => dr
  | (lo, a) :: r, dr => (lo, atrRq sg n a) :: atrRRq sg n r dr
theorem atrRRq_e : @atrRRq = @atrR := by
  funext sg_s n_s l_s ds_s
  induction l_s with
  | nil => first | rfl | simp only [atrRRq, atrR]
  | cons p r ih => simp only [atrRRq, atrR, atrRq_e, ih] <;> first | rfl | (split <;> rfl)
noncomputable def acall2Rq (e : aE) (Wl : aW) (d : Nat) (Z X1 : aX) (ds : aD) (hf : aHf) (sg : List aI) : Option (aX × aD × aHf) := cnRqz (((ameetRq sg e.2.2.1 X1 && adsMRq sg Z.1 ds e.2.2.2.1.1) && e.2.2.2.1.2.isNone) && (Nat.ble e.2.1 d && (awsubRq e.2.2.2.2.2 Wl && Nat.beq (lnRqz X1.2.2.2.1) (zL e.1)))) (some ((Z.1 ++ e.2.2.2.2.1.1, atrTRq sg (lnRqz Z.1) e.2.2.2.2.1.2.1 (atfRq e.2.2.2.2.2 Z.2.1), Z.2.2.1, Z.2.2.2.1, (e.2.2.2.2.1.2.2.1.map (atrVRq sg (lnRqz Z.1))).toList ++ Z.2.2.2.2), atrDRq sg (lnRqz Z.1) e.2.2.2.2.1.2.2.2.1 ds, cnRqz (aWfRq e.2.2.2.2.2 1000 0) (([], atrRRq sg (lnRqz Z.1) e.2.2.2.2.1.2.2.2.2 [], hf.2.2)) ((hf.1, atrRRq sg (lnRqz Z.1) e.2.2.2.2.1.2.2.2.2 hf.2.1, hf.2.2)))) (none)
theorem acall2Rq_e : @acall2Rq = @acall2 := by
  delta acall2Rq acall2
  try rw [ameetRq_e]
  try rw [adsMRq_e]
  try rw [aWfRq_e]
  try rw [awsubRq_e]
  try rw [atrVRq_e]
  try rw [atrTRq_e]
  try rw [atfRq_e]
  try rw [atrDRq_e]
  try rw [atrRRq_e]
  try rw [lnRqz_e]
  try rw [cnRqz_e]
  first | done | rfl
noncomputable def aentRq (Z : aX) (m : Nat) (xs : List aV) : aX := (Z.1, Z.2.1, 0, apadRq (zL m) (aargsRq xs), [])
theorem aentRq_e : @aentRq = @aent := by
  delta aentRq aent
  try rw [aargsRq_e]
  try rw [apadRq_e]
  first | done | rfl
noncomputable def acallRq (m : Nat) (Wl : aW) (d : Nat) (Z X1 : aX) (ds : aD) (hf : aHf) (l : List aE) : Option (aX × aD × aHf) := List.rec (motive := fun _ => Option (aX × aD × aHf)) none (fun e _ ih => Bool.rec (motive := fun _ => Option (aX × aD × aHf)) ih (Option.rec (motive := fun _ => Option (aX × aD × aHf)) ih (fun p => some p) (acall2Rq e Wl d Z X1 ds hf (asgRq e.2.2.1 X1))) (Nat.beq e.1 m)) l
theorem acallRq_e : @acallRq = @acall := by
  funext m_s Wl_s d_s Z_s X_s ds_s hf_s l_s
  induction l_s with
  | nil => rfl
  | cons e r ih =>
    show Bool.rec (motive := fun _ => Option (aX × aD × aHf)) (acallRq m_s Wl_s d_s Z_s X_s ds_s hf_s r) (Option.rec (motive := fun _ => Option (aX × aD × aHf)) (acallRq m_s Wl_s d_s Z_s X_s ds_s hf_s r) (fun p => some p) (acall2Rq e Wl_s d_s Z_s X_s ds_s hf_s (asgRq e.2.2.1 X_s))) (Nat.beq e.1 m_s) = bif Nat.beq e.1 m_s then (match acall2 e Wl_s d_s Z_s X_s ds_s hf_s (asg e.2.2.1 X_s) with
      | some p => some p
      | none => acall m_s Wl_s d_s Z_s X_s ds_s hf_s r) else acall m_s Wl_s d_s Z_s X_s ds_s hf_s r
    rw [ih, acall2Rq_e, asgRq_e]
    cases Nat.beq e.1 m_s
    · rfl
    · cases acall2 e Wl_s d_s Z_s X_s ds_s hf_s (asg e.2.2.1 X_s) <;> rfl
noncomputable def aanyRq (m : Nat) (l : List aE) : Bool := List.rec (motive := fun _ => Bool) false (fun e _ ih => Bool.rec (motive := fun _ => Bool) ih true (Nat.beq e.1 m)) l
theorem aanyRq_e : @aanyRq = @aany := by
  funext m_s l_s
  induction l_s with
  | nil => rfl
  | cons p r ih =>
    show Bool.rec (motive := fun _ => Bool) (aanyRq m_s r) true (Nat.beq p.1 m_s) = (Nat.beq p.1 m_s || aany m_s r)
    rw [ih]
    cases Nat.beq p.1 m_s <;> rfl
noncomputable def adf2Rq (X : aX) : aDf := match X.2.2.2.2 with
  | .inl (.inl (.inl y)) :: .inl (.inl (.inl x)) :: _ => cnRqz (aok32 ((abdRq X.1 (.inl x)).1 - (abdRq X.1 (.inl y)).2, (abdRq X.1 (.inl x)).2 - (abdRq X.1 (.inl y)).1)) ([((lnRqz X.1), .inl x, .inl y)]) ([])
  | _ => []
theorem adf2Rq_e : @adf2Rq = @adf2 := by
  delta adf2Rq adf2
  try rw [abdRq_e]
  try rw [lnRqz_e]
  try rw [cnRqz_e]
  first | done | rfl
noncomputable def adf1Rq : zI → aX → aDf := fun (op, _, _, b, _, _, _) X => cnRqz (Nat.beq op 7 && Nat.beq b 1) (adf2Rq X) ([])
theorem adf1Rq_e : @adf1Rq = @adf1 := by
  delta adf1Rq adf1
  try rw [adf2Rq_e]
  try rw [cnRqz_e]
  first | done | rfl
noncomputable def adq2Rq (b : Nat) (X : aX) : aDq := match X.2.2.2.2 with
  | .inl (.inl (.inr d)) :: .inl (.inl (.inl x)) :: _ => cnRqz (decide (0 < d)) ([((lnRqz X.1), b, .inl x, d)]) ([])
  | _ => []
theorem adq2Rq_e : @adq2Rq = @adq2 := by
  delta adq2Rq adq2
  try rw [lnRqz_e]
  try rw [cnRqz_e]
  first | done | rfl
noncomputable def adq1Rq : zI → aX → aDq := fun (op, _, _, b, _, _, _) X => cnRqz (Nat.beq op 8) (adq2Rq b X) ([])
theorem adq1Rq_e : @adq1Rq = @adq1 := by
  delta adq1Rq adq1
  try rw [adq2Rq_e]
  try rw [cnRqz_e]
  first | done | rfl
noncomputable def acs2Rq (len b : Nat) (dq : aDq) (X : aX) : Option aX := match X.2.2.2.2 with
  | .inl (.inl (.inr d)) :: .inl (.inl (.inl x)) :: r => cnRqz (decide (0 < d)) ((match acs3 b (.inl x) d dq with
    | some k => some (X.1, X.2.1, X.2.2.1 + len, X.2.2.2.1, .inl (.inl (.inl (k, 0))) :: r)
    | none => none)) (none)
  | _ => none
theorem acs2Rq_e : @acs2Rq = @acs2 := by
  delta acs2Rq acs2
  try rw [cnRqz_e]
  first | done | rfl
noncomputable def acseRq : zI → aDq → aX → Option aX := fun (op, len, _, b, _, _, _) dq X => cnRqz (Nat.beq op 8) (acs2Rq len b dq X) (none)
theorem acseRq_e : @acseRq = @acse := by
  delta acseRq acse
  try rw [acs2Rq_e]
  try rw [cnRqz_e]
  first | done | rfl
noncomputable def aprsRq (df : aDf) (dq : aDq) (l : List aX) : List aX := List.rec (motive := fun _ => List aX) [] (fun Z _ ih => Option.rec (motive := fun _ => List aX) ih (fun c => Option.rec (motive := fun _ => List aX) ih (fun c2 => (c2, Z.2) :: ih) (aprqRq dq c)) (aprRq df Z.1)) l
theorem aprsRq_e : @aprsRq = @aprs := by
  funext df_s dq_s l_s
  induction l_s with
  | nil => rfl
  | cons Z r ih =>
    show Option.rec (motive := fun _ => List aX) (aprsRq df_s dq_s r) (fun c => Option.rec (motive := fun _ => List aX) (aprsRq df_s dq_s r) (fun c2 => (c2, Z.2) :: aprsRq df_s dq_s r) (aprqRq dq_s c)) (aprRq df_s Z.1) = (match apr df_s Z.1 with
      | some c => (match aprq dq_s c with
        | some c2 => (c2, Z.2) :: aprs df_s dq_s r
        | none => aprs df_s dq_s r)
      | none => aprs df_s dq_s r)
    rw [ih, aprRq_e, aprqRq_e]
    cases apr df_s Z.1 with
    | none => rfl
    | some c => cases hq : aprq dq_s c <;> simp only [hq]
noncomputable def adb3Rq (len a b pc : Nat) (X : aX) : aD := match X.2.2.2.2 with
  | .inl (.inl (.inl (ky, oy))) :: .inl (.inl (.inl (kx, ox))) :: _ => cnRqz (Nat.beq a (X.2.2.1 + len)) ([]) (adb2 b (Nat.beq pc a) kx ky ox oy)
  | _ => []
theorem adb3Rq_e : @adb3Rq = @adb3 := by
  delta adb3Rq adb3
  try rw [cnRqz_e]
  first | done | rfl
noncomputable def adb1Rq (pc : Nat) : zI → aX → aD := fun (op, len, a, b, _, _, _) X => cnRqz (Nat.beq op 16) (adb3Rq len a b pc X) ([])
theorem adb1Rq_e : @adb1Rq = @adb1 := by
  delta adb1Rq adb1
  try rw [adb3Rq_e]
  try rw [cnRqz_e]
  first | done | rfl
noncomputable def ascrRq (ds : aD) (sl : aSc) : zI → aX → Option (aX × aSc) := fun (op, len, _, _, _, _, _) X => match sl.1 with
  | none => none
  | some k => cnRqz (Nat.beq op 28) ((match X.2.2.2.2 with
    | .inr [0] :: r => cnRqz (Nat.blt k (lnRqz X.1)) (some ((X.1, X.2.1, X.2.2.1 + len, X.2.2.2.1, .inl (.inl (.inl (k, 0))) :: r), sl)) (none)
    | _ => none)) (cnRqz (Nat.beq op 22) ((match X.2.2.2.2 with
    | .inl (.inl i) :: .inr [0] :: r => cnRqz (ile 0 (abdRq X.1 i).1 && ale0Rq X.1 ds (alI 1 i (alI (-1) (.inl (k, 0)) (1, [])))) ((match aldf i sl.2 with
      | some j => some ((X.1, X.2.1, X.2.2.1 + len, X.2.2.2.1, .inl (.inl (.inl (j, 0))) :: r), sl)
      | none => some ((apRqz X.1 [afull], X.2.1, X.2.2.1 + len, X.2.2.2.1, .inl (.inl (.inl ((lnRqz X.1), 0))) :: r), (sl.1, (i, (lnRqz X.1)) :: sl.2)))) (none)
    | _ => none)) (none))
theorem ascrRq_e : @ascrRq = @ascr := by
  delta ascrRq ascr
  try rw [abdRq_e]
  try rw [ale0Rq_e]
  try rw [lnRqz_e]
  try rw [apRqz_e]
  try rw [cnRqz_e]
  first | done | rfl
noncomputable def adrnRq (cs : aCs) (ds : aD) (i : aI) : aDr → Bool
  | [] => false
  | (lo, v) :: r => (ale0Rq cs ds (alI (-1) i (lo, [])) && ale0Rq cs ds (alI (-1) v (alI 1 i (1 - lo, [])))) || adrnRq cs ds i r
theorem adrnRq_e : @adrnRq = @adrn := by
  funext cs_s ds_s i_s l_s
  induction l_s with
  | nil => first | rfl | simp only [adrnRq, adrn]
  | cons p r ih => simp only [adrnRq, adrn, ale0Rq_e, ih] <;> first | rfl | (split <;> rfl)
noncomputable def along2Rq (S : Nat → Option (Nat × Nat)) (ds : aD) (hf : aHf) (len : Nat) (X : aX) : Option (aX × aHf) := match X.2.2.2.2 with
  | .inl (.inl i) :: .inr [o] :: r => cnRqz (Nat.beq o 126 && ainRq S X.1 i [126] (fun _ t => Nat.beq t 1)) ((match aldf i hf.1 with
    | some k => cnRqz (Nat.blt k (lnRqz X.1)) (some ((X.1, X.2.1, X.2.2.1 + len, X.2.2.2.1, .inl (.inr (.inl (k, 0))) :: r), hf)) (none)
    | none => some ((apRqz X.1 [cnRqz (adrnRq X.1 ds i hf.2.1) ((0, 11)) (afulL)], X.2.1, X.2.2.1 + len, X.2.2.2.1, .inl (.inr (.inl ((lnRqz X.1), 0))) :: r), ((i, (lnRqz X.1)) :: hf.1, hf.2)))) (none)
  | _ => none
theorem along2Rq_e : @along2Rq = @along2 := by
  delta along2Rq along2
  try rw [ainRq_e]
  try rw [adrnRq_e]
  try rw [lnRqz_e]
  try rw [apRqz_e]
  try rw [cnRqz_e]
  first | done | rfl
noncomputable def alongRq (S : Nat → Option (Nat × Nat)) (ds : aD) (hf : aHf) : zI → aX → Option (aX × aHf) := fun (op, len, _, _, _, _, _) X => cnRqz (Nat.beq op 23) (along2Rq S ds hf len X) (none)
theorem alongRq_e : @alongRq = @along := by
  delta alongRq along
  try rw [along2Rq_e]
  try rw [cnRqz_e]
  first | done | rfl
noncomputable def aspecRq (S : Nat → Option (Nat × Nat)) (e : zI) (G : aG) (X : aX) : Option (aX × aHf) := match acseRq e G.2.2.1 X with
  | some Z => some (Z, G.2.2.2)
  | none => (match ascrRq G.1 G.2.2.2.2.2 e X with
    | some p => some (p.1, (G.2.2.2.1, G.2.2.2.2.1, p.2))
    | none => alongRq S G.1 G.2.2.2 e X)
theorem aspecRq_e : @aspecRq = @aspec := by
  delta aspecRq aspec
  try rw [acseRq_e]
  try rw [ascrRq_e]
  try rw [alongRq_e]
  first | done | rfl
noncomputable def alwRq (Wl : aW) : zI → Bool := fun (op, _, _, _, _, _, _) => !(Nat.beq op 26 || Nat.beq op 34) || aWfRq (awnRq Wl) 1000 0
theorem alwRq_e : @alwRq = @alw := by
  delta alwRq alw
  try rw [aWfRq_e]
  try rw [awnRq_e]
  first | done | rfl
noncomputable def ahkRq (hf : aHf) : zI → aHf := fun (op, _, _, _, _, _, _) => cnRqz (Nat.beq op 26 || Nat.beq op 34) (([], [], hf.2.2)) (hf)
theorem ahkRq_e : @ahkRq = @ahk := by
  delta ahkRq ahk
  try rw [cnRqz_e]
  first | done | rfl
noncomputable def acore2Rq (S : Nat → Option (Nat × Nat)) (rf : Nat → Nat → List Nat) (B : aB) (es : List aE) (Wl : aW) (d : Nat) (X : aX) (G : aG) (mi : Nat) (gs : List aFm) (e : zI) : Option (List (Nat × aY) ⊕ (aX × Option aV)) := (match astepRRq e X with
    | some (.inr (.inr w)) => (match gs with
      | [] => some (.inr (X, w))
      | g :: gs' => some (.inl [(d + 1, ((X.1, X.2.1, g.2.1, g.2.2.1, w.toList ++ g.2.2.2), G, g.1, gs'))]))
    | _ => (match astepCRq S e X with
      | some (.inr (.inl (m, xs, Z))) => (match d with
        | 0 => none
        | d' + 1 => cnRqz (aanyRq m es) ((match acallRq m Wl d' Z (aentRq Z m xs) G.1 G.2.2.2 es with
          | some p => some (.inl [(d' + 1, (p.1, (p.2.1, G.2.1, G.2.2.1, p.2.2), mi, gs))])
          | none => none)) (cnRqz (Nat.beq (apadRq (zL m) (aargsRq xs)).length (zL m)) (some (.inl [(d', (aentRq Z m xs, G, m, (mi, Z.2.2.1, Z.2.2.2.1, Z.2.2.2.2) :: gs))])) (none)))
      | _ => (match aspecRq S e G X with
        | some p => some (.inl [(d, (p.1, (G.1, G.2.1, G.2.2.1, p.2), mi, gs))])
        | none => cnRqz (alwRq Wl e) ((match astepFRq S rf B (aWfRq (awnRq Wl)) (aWARq (awnRq Wl)) e X with
          | some (.inl Ys) => some (.inl ((aprsRq (adf1Rq e X ++ G.2.1) (adq1Rq e X ++ G.2.2.1) Ys).map (fun Z => (d, (Z, (cnRqz (gs.isEmpty) (adb1Rq Z.2.2.1 e X ++ G.1) (G.1), adf1Rq e X ++ G.2.1, adq1Rq e X ++ G.2.2.1, ahkRq G.2.2.2 e), mi, gs)))))
          | _ => none)) (none))))
theorem acore2Rq_e : @acore2Rq = @acore2 := by
  delta acore2Rq acore2
  try rw [astepFRq_e]
  try rw [astepRRq_e]
  try rw [astepCRq_e]
  try rw [aargsRq_e]
  try rw [apadRq_e]
  try rw [aWARq_e]
  try rw [aWfRq_e]
  try rw [awnRq_e]
  try rw [aentRq_e]
  try rw [acallRq_e]
  try rw [aanyRq_e]
  try rw [adf1Rq_e]
  try rw [adq1Rq_e]
  try rw [aprsRq_e]
  try rw [adb1Rq_e]
  try rw [aspecRq_e]
  try rw [alwRq_e]
  try rw [ahkRq_e]
  try rw [cnRqz_e]
  first | done | rfl
noncomputable def acorePRq (S : Nat → Option (Nat × Nat)) (rf : Nat → Nat → List Nat) (B : aB) (Wl : aW) (d : Nat) (X : aX) (G : aG) (mi : Nat) (gs : List aFm) (e : zI) : Option (List (Nat × aY) ⊕ (aX × Option aV)) := match astepFRq S rf B (aWfRq (awnRq Wl)) (aWARq (awnRq Wl)) e X with
  | some (.inl Ys) => some (.inl (Ys.map (fun Z => (d, (Z, G, mi, gs)))))
  | _ => none
theorem acorePRq_e : @acorePRq = @acoreP := by
  delta acorePRq acoreP
  try rw [astepFRq_e]
  try rw [aWARq_e]
  try rw [aWfRq_e]
  try rw [awnRq_e]
  first | done | rfl
noncomputable def alcbRq (X : aX) (len : Nat) : zI → Option (List aX) := fun (op, len2, a2, b2, _, _, _) => cnRqz (Nat.beq op 15) ((match X.2.2.2.2 with
  | .inl (.inr y) :: .inl (.inr x) :: r => some (aoptRq (fun c => (c, X.2.1, a2, X.2.2.2.1, r)) (acmpRq X.1 b2 x y).1 ++ aoptRq (fun c => (c, X.2.1, X.2.2.1 + len + len2, X.2.2.2.1, r)) (acmpRq X.1 b2 x y).2)
  | _ => none)) (none)
theorem alcbRq_e : @alcbRq = @alcb := by
  delta alcbRq alcb
  try rw [aoptRq_e]
  try rw [acmpRq_e]
  try rw [cnRqz_e]
  first | done | rfl
noncomputable def alcxRq (X : aX) (mi : Nat) : zI → Option (List aX) := fun (op, len, _, _, _, _, _) => cnRqz (Nat.beq op 14) ((match zif3 mi (X.2.2.1 + len) with
  | some e2 => alcbRq X len e2
  | none => none)) (none)
theorem alcxRq_e : @alcxRq = @alcx := by
  delta alcxRq alcx
  try rw [alcbRq_e]
  try rw [cnRqz_e]
  first | done | rfl
noncomputable def acore1Rq (S : Nat → Option (Nat × Nat)) (rf : Nat → Nat → List Nat) (B : aB) (es : List aE) (Wl : aW) (d : Nat) (X : aX) (G : aG) (mi : Nat) (gs : List aFm) (e : zI) : Option (List (Nat × aY) ⊕ (aX × Option aV)) := cnRqz (apl e) (acorePRq S rf B Wl d X G mi gs e) ((match alcxRq X mi e with
  | some Ys => some (.inl ((aprsRq G.2.1 G.2.2.1 Ys).map (fun Z => (d, (Z, G, mi, gs)))))
  | none => acore2Rq S rf B es Wl d X G mi gs e))
theorem acore1Rq_e : @acore1Rq = @acore1 := by
  delta acore1Rq acore1
  try rw [aprsRq_e]
  try rw [acore2Rq_e]
  try rw [acorePRq_e]
  try rw [alcxRq_e]
  try rw [cnRqz_e]
  first | done | rfl
noncomputable def anrRq : zI → aX → aX := fun (op, _, _, _, _, _, _) X => cnRqz (Nat.beq op 7 || (Nat.beq op 8 || (Nat.beq op 22 || Nat.beq op 25))) (anrmRq X) (X)
theorem anrRq_e : @anrRq = @anr := by
  delta anrRq anr
  try rw [anrmRq_e]
  try rw [cnRqz_e]
  first | done | rfl
noncomputable def acoreRq (S : Nat → Option (Nat × Nat)) (rf : Nat → Nat → List Nat) (B : aB) (es : List aE) (Wl : aW) (d : Nat) (X : aX) (G : aG) (mi : Nat) (gs : List aFm) : Option (List (Nat × aY) ⊕ (aX × Option aV)) := match zif3 mi X.2.2.1 with
  | none => none
  | some e => acore1Rq S rf B es Wl d (anrRq e X) G mi gs e
theorem acoreRq_e : @acoreRq = @acore := by
  delta acoreRq acore
  try rw [acore1Rq_e]
  try rw [anrRq_e]
  first | done | rfl
noncomputable def arunYRq (S : Nat → Option (Nat × Nat)) (rf : Nat → Nat → List Nat) (B : aB) (es : List aE) (Wl : aW) (sp : Nat → Nat → Option (Nat × Int × Int × Nat)) (mi0 : Nat) (cutp : Nat → Bool) (leafC : Nat → aX → aG → Bool) (leafR : aX → Option aV → aG → Bool) (f : Nat) : Nat → Bool → aY → Bool := Nat.rec (motive := fun _ => Nat → Bool → aY → Bool) (fun _ _ _ => false) (fun _ ih d b Y => bif !b && (Y.2.2.2.isEmpty && (Nat.beq Y.2.2.1 mi0 && cutp Y.1.2.2.1)) then leafC d Y.1 Y.2.1 else alRqz (match sp Y.2.2.1 Y.1.2.2.1 with
    | some i => asplRq Y.1 i
    | none => [Y.1]) (fun Z => match acoreRq S rf B es Wl d Z Y.2.1 Y.2.2.1 Y.2.2.2 with
      | some (.inl Ys) => alRqz Ys (fun p => ih p.1 false p.2)
      | some (.inr p) => leafR p.1 p.2 Y.2.1
      | none => false)) f
theorem arunYRq_e : @arunYRq = @arunY := by
  funext S_s rf_s B_s es_s Wl_s sp_s mi_s cutp_s lc_s lr_s f_s
  induction f_s with
  | zero => rfl
  | succ f ih =>
    funext d_s b_s Y_s
    show (bif !b_s && (Y_s.2.2.2.isEmpty && (Nat.beq Y_s.2.2.1 mi_s && cutp_s Y_s.1.2.2.1)) then lc_s d_s Y_s.1 Y_s.2.1 else alRqz (match sp_s Y_s.2.2.1 Y_s.1.2.2.1 with
      | some i => asplRq Y_s.1 i
      | none => [Y_s.1]) (fun Z => match acoreRq S_s rf_s B_s es_s Wl_s d_s Z Y_s.2.1 Y_s.2.2.1 Y_s.2.2.2 with
        | some (.inl Ys) => alRqz Ys (fun p => arunYRq S_s rf_s B_s es_s Wl_s sp_s mi_s cutp_s lc_s lr_s f p.1 false p.2)
        | some (.inr p) => lr_s p.1 p.2 Y_s.2.1
        | none => false)) = _
    rw [alRqz_e, acoreRq_e, ih, asplRq_e]
    rfl
noncomputable def aidfRq (s n : Nat) : List aI := Nat.rec (motive := fun _ => Nat → List aI) (fun _ => []) (fun _ ih s => .inl (s, 0) :: ih (s + 1)) n s
theorem aidfRq_e : @aidfRq = @aidf := by
  funext s_s n_s
  induction n_s generalizing s_s with
  | zero => rfl
  | succ n ih => exact congrArg (List.cons (.inl (s_s, 0))) (ih (s_s + 1))
noncomputable def adr1Rq (cs : aCs) (hf : aHf) (lo : Int) (v : aI) : Bool := ile (abdRq cs v).2 0 || (anRqz hf.2.1 (fun p => ieq p.1 lo && (aeqI p.2 v || ile (abdRq cs v).2 (abdRq cs p.2).1)) || (anRqz hf.2.1 (fun p => ieq p.1 lo && aeqI p.2 (aoff (-1) v)) && (match aldf (aoff (lo - 1) v) hf.1 with
  | some k => ile 0 (abdRq cs (.inl (k, 0))).1 && (ile (abdRq cs (.inl (k, 0))).2 11 && Nat.blt k (lnRqz cs))
  | none => false)))
theorem adr1Rq_e : @adr1Rq = @adr1 := by
  delta adr1Rq adr1
  try rw [abdRq_e]
  try rw [lnRqz_e]
  try rw [anRqz_e]
  first | done | rfl
noncomputable def adrMRq (sg : List aI) (cs : aCs) (hf : aHf) : aDr → Bool
  | [] => true
  | (lo, a) :: r => (match a with
    | .inl (k, o) => (match zgetRq sg k with
      | some s => aokRq cs s && adr1Rq cs hf lo (aoff o s)
      | none => false)
    | .inr n => ile n 0) && adrMRq sg cs hf r
theorem adrMRq_e : @adrMRq = @adrM := by
  funext sg_s cs_s hf_s l_s
  induction l_s with
  | nil => first | rfl | simp only [adrMRq, adrM]
  | cons p r ih => simp only [adrMRq, adrM, zgetRq_e, aokRq_e, adr1Rq_e, ih] <;> first | rfl | (split <;> rfl)
noncomputable def asgpRq (n0 : Nat) (A X : aX) : List aI :=
  let l := asLRq A.2.2.2.1 X.2.2.2.1 (asS A.2.2.2.2 X.2.2.2.2 (asTRq X.2.1 A.2.1 []))
  aidfRq 0 n0 ++ (List.range' n0 ((lnRqz A.1) - n0)).map (asFRq l)
theorem asgpRq_e : @asgpRq = @asgp := by
  delta asgpRq asgp
  try rw [asLRq_e]
  try rw [asTRq_e]
  try rw [asFRq_e]
  try rw [aidfRq_e]
  try rw [lnRqz_e]
  first | done | rfl
noncomputable def alc1Rq (c : aC) (ms : Option (Int × aLn)) (X : aX) (G : aG) (sg : List aI) : Bool := ((ameetRq sg c.1 X && adsMRq sg X.1 G.1 c.2.1.1) && adrMRq sg X.1 G.2.2.2 c.2.1.2) && (match ms with
  | none => true
  | some m => ale0Rq X.1 G.1 (alng m.2 (alsgRq sg c.2.2.2 (c.2.2.1 + 1 - m.1, []))))
theorem alc1Rq_e : @alc1Rq = @alc1 := by
  delta alc1Rq alc1
  try rw [ameetRq_e]
  try rw [ale0Rq_e]
  try rw [alsgRq_e]
  try rw [adsMRq_e]
  try rw [adrMRq_e]
  first | done | rfl
noncomputable def alfCRq (cuts : List aC) (n0 d0 : Nat) (ms : Option (Int × aLn)) (d : Nat) (X : aX) (G : aG) : Bool := Nat.beq d d0 && anRqz cuts (fun c => Nat.beq c.1.2.2.1 X.2.2.1 && alc1Rq c ms X G (asgpRq n0 c.1 X))
theorem alfCRq_e : @alfCRq = @alfC := by
  delta alfCRq alfC
  try rw [asgpRq_e]
  try rw [alc1Rq_e]
  try rw [anRqz_e]
  first | done | rfl
noncomputable def amWRq (sg : List aI) (cs : aCs) : Option aV → Option aV → Bool
  | some a, some b => amVRq sg cs a b
  | none, none => true
  | _, _ => false
theorem amWRq_e : @amWRq = @amW := by
  delta amWRq amW
  try rw [amVRq_e]
  first | done | rfl
noncomputable def alr1Rq (e : aE) (n0 : Nat) (X : aX) (w : Option aV) (G : aG) (sr : List aI) : Bool := (amBRq X.1 e.2.2.2.2.1.1 sr && amWRq (aidfRq 0 n0 ++ sr) X.1 e.2.2.2.2.1.2.2.1 w) && (amTRq (aidfRq 0 n0 ++ sr) X.1 X.2.1 e.2.2.2.2.1.2.1 && (adsMRq (aidfRq 0 n0 ++ sr) X.1 G.1 e.2.2.2.2.1.2.2.2.1 && adrMRq (aidfRq 0 n0 ++ sr) X.1 G.2.2.2 e.2.2.2.2.1.2.2.2.2))
theorem alr1Rq_e : @alr1Rq = @alr1 := by
  delta alr1Rq alr1
  try rw [amTRq_e]
  try rw [amBRq_e]
  try rw [adsMRq_e]
  try rw [aidfRq_e]
  try rw [adrMRq_e]
  try rw [amWRq_e]
  first | done | rfl
noncomputable def asgrRq (e : aE) (n0 : Nat) (X : aX) (w : Option aV) : List aI :=
  let l := asTRq X.2.1 e.2.2.2.2.1.2.1 (match e.2.2.2.2.1.2.2.1, w with
    | some a, some b => asV a b []
    | _, _ => [])
  (List.range' n0 (lnRqz e.2.2.2.2.1.1)).map (asFRq l)
theorem asgrRq_e : @asgrRq = @asgr := by
  delta asgrRq asgr
  try rw [asTRq_e]
  try rw [asFRq_e]
  try rw [lnRqz_e]
  first | done | rfl
noncomputable def alfRRq (e : aE) (n0 : Nat) (X : aX) (w : Option aV) (G : aG) : Bool := alr1Rq e n0 X w G (asgrRq e n0 X w)
theorem alfRRq_e : @alfRRq = @alfR := by
  delta alfRRq alfR
  try rw [alr1Rq_e]
  try rw [asgrRq_e]
  first | done | rfl
noncomputable def acutpRq (cuts : List aC) (pc : Nat) : Bool := anRqz cuts (fun c => Nat.beq c.1.2.2.1 pc)
theorem acutpRq_e : @acutpRq = @acutp := by
  delta acutpRq acutp
  try rw [anRqz_e]
  first | done | rfl
noncomputable def asegRq (S : Nat → Option (Nat × Nat)) (rf : Nat → Nat → List Nat) (B : aB) (es : List aE) (sp : Nat → Nat → Option (Nat × Int × Int × Nat)) (e : aE) (cuts : List aC) (f : Nat) (c : Option aC) : Bool := match c with
  | none => arunYRq S rf B es e.2.2.2.2.2 sp e.1 (acutpRq cuts) (alfCRq cuts (lnRqz e.2.2.1.1) e.2.1 none) (alfRRq e (lnRqz e.2.2.1.1)) f e.2.1 true (e.2.2.1, (e.2.2.2.1.1, [], [], ([], [], (e.2.2.2.1.2, []))), e.1, [])
  | some c => arunYRq S rf B es e.2.2.2.2.2 sp e.1 (acutpRq cuts) (alfCRq cuts (lnRqz e.2.2.1.1) e.2.1 (some c.2.2)) (alfRRq e (lnRqz e.2.2.1.1)) f e.2.1 true (c.1, (c.2.1.1, [], [], ([], c.2.1.2, (e.2.2.2.1.2, []))), e.1, []) && (ale0Rq c.1.1 c.2.1.1 (alng c.2.2.2 (-c.2.2.1, [])) && alRqz c.2.2.2 (fun p => Nat.blt p.2 (lnRqz c.1.1)))
theorem asegRq_e : @asegRq = @aseg := by
  delta asegRq aseg
  try rw [ale0Rq_e]
  try rw [arunYRq_e]
  try rw [alfCRq_e]
  try rw [alfRRq_e]
  try rw [acutpRq_e]
  try rw [lnRqz_e]
  try rw [alRqz_e]
  first | done | rfl
theorem asgq {S : Nat → Option (Nat × Nat)} {rf : Nat → Nat → List Nat} {B : aB} {es : List aE} {sp : Nat → Nat → Option (Nat × Int × Int × Nat)} {e : aE} {cuts : List aC} {f : Nat} {c : Option aC} (h : asegRq S rf B es sp e cuts f c = true) : aseg S rf B es sp e cuts f c = true := by
  rw [← asegRq_e]
  exact h
/-! the steps of the checker by small functions, and that they say the same: printed by wip/gen/fast2.py -/
noncomputable def fcRqz {α : Type} (n_s : Nat) (k_s : Nat → α) : α := Nat.rec (motive := fun _ => α) (k_s 0) (fun m_s _ => k_s (Nat.succ m_s)) n_s
theorem fcRqz_e {α : Type} {n_s : Nat} {k_s : Nat → α} : fcRqz n_s k_s = k_s n_s := by cases n_s <;> rfl
theorem mpRqz_e : @mpRqz = @List.map := by
  funext a_s b_s f_s l_s
  induction l_s with
  | nil => rfl
  | cons a_s r_s ih_s => exact congrArg (List.cons (f_s a_s)) ih_s
noncomputable def zjN0 (mi : Nat) : Option (List (List (Option zI))) := cnRqz (Nat.ble 241 mi) (some zi_241) (some zi_240)
noncomputable def zjN1 (mi : Nat) : Option (List (List (Option zI))) := cnRqz (Nat.ble 239 mi) (some zi_239) (some zi_238)
noncomputable def zjN2 (mi : Nat) : Option (List (List (Option zI))) := cnRqz (Nat.ble 240 mi) (zjN0 mi) (zjN1 mi)
noncomputable def zjN3 (mi : Nat) : Option (List (List (Option zI))) := cnRqz (Nat.ble 237 mi) (some zi_237) (some zi_236)
noncomputable def zjN4 (mi : Nat) : Option (List (List (Option zI))) := cnRqz (Nat.ble 235 mi) (some zi_235) (some zi_234)
noncomputable def zjN5 (mi : Nat) : Option (List (List (Option zI))) := cnRqz (Nat.ble 236 mi) (zjN3 mi) (zjN4 mi)
noncomputable def zjN6 (mi : Nat) : Option (List (List (Option zI))) := cnRqz (Nat.ble 238 mi) (zjN2 mi) (zjN5 mi)
noncomputable def zjN7 (mi : Nat) : Option (List (List (Option zI))) := cnRqz (Nat.ble 233 mi) (some zi_233) (some zi_232)
noncomputable def zjN8 (mi : Nat) : Option (List (List (Option zI))) := cnRqz (Nat.ble 231 mi) (some zi_231) (some zi_230)
noncomputable def zjN9 (mi : Nat) : Option (List (List (Option zI))) := cnRqz (Nat.ble 232 mi) (zjN7 mi) (zjN8 mi)
noncomputable def zjN10 (mi : Nat) : Option (List (List (Option zI))) := cnRqz (Nat.ble 229 mi) (some zi_229) (some zi_228)
noncomputable def zjN11 (mi : Nat) : Option (List (List (Option zI))) := cnRqz (Nat.ble 227 mi) (some zi_227) (some zi_226)
noncomputable def zjN12 (mi : Nat) : Option (List (List (Option zI))) := cnRqz (Nat.ble 228 mi) (zjN10 mi) (zjN11 mi)
noncomputable def zjN13 (mi : Nat) : Option (List (List (Option zI))) := cnRqz (Nat.ble 230 mi) (zjN9 mi) (zjN12 mi)
noncomputable def zjN14 (mi : Nat) : Option (List (List (Option zI))) := cnRqz (Nat.ble 234 mi) (zjN6 mi) (zjN13 mi)
noncomputable def zjN15 (mi : Nat) : Option (List (List (Option zI))) := cnRqz (Nat.ble 225 mi) (some zi_225) (some zi_224)
noncomputable def zjN16 (mi : Nat) : Option (List (List (Option zI))) := cnRqz (Nat.ble 223 mi) (some zi_223) (some zi_222)
noncomputable def zjN17 (mi : Nat) : Option (List (List (Option zI))) := cnRqz (Nat.ble 224 mi) (zjN15 mi) (zjN16 mi)
noncomputable def zjN18 (mi : Nat) : Option (List (List (Option zI))) := cnRqz (Nat.ble 221 mi) (some zi_221) (some zi_220)
noncomputable def zjN19 (mi : Nat) : Option (List (List (Option zI))) := cnRqz (Nat.ble 219 mi) (some zi_219) (some zi_218)
noncomputable def zjN20 (mi : Nat) : Option (List (List (Option zI))) := cnRqz (Nat.ble 220 mi) (zjN18 mi) (zjN19 mi)
noncomputable def zjN21 (mi : Nat) : Option (List (List (Option zI))) := cnRqz (Nat.ble 222 mi) (zjN17 mi) (zjN20 mi)
noncomputable def zjN22 (mi : Nat) : Option (List (List (Option zI))) := cnRqz (Nat.ble 217 mi) (some zi_217) (some zi_216)
noncomputable def zjN23 (mi : Nat) : Option (List (List (Option zI))) := cnRqz (Nat.ble 215 mi) (some zi_215) (some zi_214)
noncomputable def zjN24 (mi : Nat) : Option (List (List (Option zI))) := cnRqz (Nat.ble 216 mi) (zjN22 mi) (zjN23 mi)
noncomputable def zjN25 (mi : Nat) : Option (List (List (Option zI))) := cnRqz (Nat.ble 213 mi) (some zi_213) (some zi_212)
noncomputable def zjN26 (mi : Nat) : Option (List (List (Option zI))) := cnRqz (Nat.ble 212 mi) (zjN25 mi) (some zi_211)
noncomputable def zjN27 (mi : Nat) : Option (List (List (Option zI))) := cnRqz (Nat.ble 214 mi) (zjN24 mi) (zjN26 mi)
noncomputable def zjN28 (mi : Nat) : Option (List (List (Option zI))) := cnRqz (Nat.ble 218 mi) (zjN21 mi) (zjN27 mi)
noncomputable def zjN29 (mi : Nat) : Option (List (List (Option zI))) := cnRqz (Nat.ble 226 mi) (zjN14 mi) (zjN28 mi)
noncomputable def zjN30 (mi : Nat) : Option (List (List (Option zI))) := cnRqz (Nat.ble 210 mi) (some zi_210) (some zi_209)
noncomputable def zjN31 (mi : Nat) : Option (List (List (Option zI))) := cnRqz (Nat.ble 208 mi) (some zi_208) (some zi_207)
noncomputable def zjN32 (mi : Nat) : Option (List (List (Option zI))) := cnRqz (Nat.ble 209 mi) (zjN30 mi) (zjN31 mi)
noncomputable def zjN33 (mi : Nat) : Option (List (List (Option zI))) := cnRqz (Nat.ble 206 mi) (some zi_206) (some zi_205)
noncomputable def zjN34 (mi : Nat) : Option (List (List (Option zI))) := cnRqz (Nat.ble 204 mi) (some zi_204) (some zi_203)
noncomputable def zjN35 (mi : Nat) : Option (List (List (Option zI))) := cnRqz (Nat.ble 205 mi) (zjN33 mi) (zjN34 mi)
noncomputable def zjN36 (mi : Nat) : Option (List (List (Option zI))) := cnRqz (Nat.ble 207 mi) (zjN32 mi) (zjN35 mi)
noncomputable def zjN37 (mi : Nat) : Option (List (List (Option zI))) := cnRqz (Nat.ble 202 mi) (some zi_202) (some zi_201)
noncomputable def zjN38 (mi : Nat) : Option (List (List (Option zI))) := cnRqz (Nat.ble 200 mi) (some zi_200) (some zi_199)
noncomputable def zjN39 (mi : Nat) : Option (List (List (Option zI))) := cnRqz (Nat.ble 201 mi) (zjN37 mi) (zjN38 mi)
noncomputable def zjN40 (mi : Nat) : Option (List (List (Option zI))) := cnRqz (Nat.ble 198 mi) (some zi_198) (some zi_197)
noncomputable def zjN41 (mi : Nat) : Option (List (List (Option zI))) := cnRqz (Nat.ble 197 mi) (zjN40 mi) (some zi_196)
noncomputable def zjN42 (mi : Nat) : Option (List (List (Option zI))) := cnRqz (Nat.ble 199 mi) (zjN39 mi) (zjN41 mi)
noncomputable def zjN43 (mi : Nat) : Option (List (List (Option zI))) := cnRqz (Nat.ble 203 mi) (zjN36 mi) (zjN42 mi)
noncomputable def zjN44 (mi : Nat) : Option (List (List (Option zI))) := cnRqz (Nat.ble 195 mi) (some zi_195) (some zi_194)
noncomputable def zjN45 (mi : Nat) : Option (List (List (Option zI))) := cnRqz (Nat.ble 193 mi) (some zi_193) (some zi_192)
noncomputable def zjN46 (mi : Nat) : Option (List (List (Option zI))) := cnRqz (Nat.ble 194 mi) (zjN44 mi) (zjN45 mi)
noncomputable def zjN47 (mi : Nat) : Option (List (List (Option zI))) := cnRqz (Nat.ble 191 mi) (some zi_191) (some zi_190)
noncomputable def zjN48 (mi : Nat) : Option (List (List (Option zI))) := cnRqz (Nat.ble 189 mi) (some zi_189) (some zi_188)
noncomputable def zjN49 (mi : Nat) : Option (List (List (Option zI))) := cnRqz (Nat.ble 190 mi) (zjN47 mi) (zjN48 mi)
noncomputable def zjN50 (mi : Nat) : Option (List (List (Option zI))) := cnRqz (Nat.ble 192 mi) (zjN46 mi) (zjN49 mi)
noncomputable def zjN51 (mi : Nat) : Option (List (List (Option zI))) := cnRqz (Nat.ble 187 mi) (some zi_187) (some zi_186)
noncomputable def zjN52 (mi : Nat) : Option (List (List (Option zI))) := cnRqz (Nat.ble 185 mi) (some zi_185) (some zi_184)
noncomputable def zjN53 (mi : Nat) : Option (List (List (Option zI))) := cnRqz (Nat.ble 186 mi) (zjN51 mi) (zjN52 mi)
noncomputable def zjN54 (mi : Nat) : Option (List (List (Option zI))) := cnRqz (Nat.ble 183 mi) (some zi_183) (some zi_182)
noncomputable def zjN55 (mi : Nat) : Option (List (List (Option zI))) := cnRqz (Nat.ble 182 mi) (zjN54 mi) (some zi_181)
noncomputable def zjN56 (mi : Nat) : Option (List (List (Option zI))) := cnRqz (Nat.ble 184 mi) (zjN53 mi) (zjN55 mi)
noncomputable def zjN57 (mi : Nat) : Option (List (List (Option zI))) := cnRqz (Nat.ble 188 mi) (zjN50 mi) (zjN56 mi)
noncomputable def zjN58 (mi : Nat) : Option (List (List (Option zI))) := cnRqz (Nat.ble 196 mi) (zjN43 mi) (zjN57 mi)
noncomputable def zjN59 (mi : Nat) : Option (List (List (Option zI))) := cnRqz (Nat.ble 211 mi) (zjN29 mi) (zjN58 mi)
noncomputable def zjN60 (mi : Nat) : Option (List (List (Option zI))) := cnRqz (Nat.ble 180 mi) (some zi_180) (some zi_179)
noncomputable def zjN61 (mi : Nat) : Option (List (List (Option zI))) := cnRqz (Nat.ble 178 mi) (some zi_178) (some zi_177)
noncomputable def zjN62 (mi : Nat) : Option (List (List (Option zI))) := cnRqz (Nat.ble 179 mi) (zjN60 mi) (zjN61 mi)
noncomputable def zjN63 (mi : Nat) : Option (List (List (Option zI))) := cnRqz (Nat.ble 176 mi) (some zi_176) (some zi_175)
noncomputable def zjN64 (mi : Nat) : Option (List (List (Option zI))) := cnRqz (Nat.ble 174 mi) (some zi_174) (some zi_173)
noncomputable def zjN65 (mi : Nat) : Option (List (List (Option zI))) := cnRqz (Nat.ble 175 mi) (zjN63 mi) (zjN64 mi)
noncomputable def zjN66 (mi : Nat) : Option (List (List (Option zI))) := cnRqz (Nat.ble 177 mi) (zjN62 mi) (zjN65 mi)
noncomputable def zjN67 (mi : Nat) : Option (List (List (Option zI))) := cnRqz (Nat.ble 172 mi) (some zi_172) (some zi_171)
noncomputable def zjN68 (mi : Nat) : Option (List (List (Option zI))) := cnRqz (Nat.ble 170 mi) (some zi_170) (some zi_169)
noncomputable def zjN69 (mi : Nat) : Option (List (List (Option zI))) := cnRqz (Nat.ble 171 mi) (zjN67 mi) (zjN68 mi)
noncomputable def zjN70 (mi : Nat) : Option (List (List (Option zI))) := cnRqz (Nat.ble 168 mi) (some zi_168) (some zi_167)
noncomputable def zjN71 (mi : Nat) : Option (List (List (Option zI))) := cnRqz (Nat.ble 167 mi) (zjN70 mi) (some zi_166)
noncomputable def zjN72 (mi : Nat) : Option (List (List (Option zI))) := cnRqz (Nat.ble 169 mi) (zjN69 mi) (zjN71 mi)
noncomputable def zjN73 (mi : Nat) : Option (List (List (Option zI))) := cnRqz (Nat.ble 173 mi) (zjN66 mi) (zjN72 mi)
noncomputable def zjN74 (mi : Nat) : Option (List (List (Option zI))) := cnRqz (Nat.ble 165 mi) (some zi_165) (some zi_164)
noncomputable def zjN75 (mi : Nat) : Option (List (List (Option zI))) := cnRqz (Nat.ble 163 mi) (some zi_163) (some zi_162)
noncomputable def zjN76 (mi : Nat) : Option (List (List (Option zI))) := cnRqz (Nat.ble 164 mi) (zjN74 mi) (zjN75 mi)
noncomputable def zjN77 (mi : Nat) : Option (List (List (Option zI))) := cnRqz (Nat.ble 161 mi) (some zi_161) (some zi_160)
noncomputable def zjN78 (mi : Nat) : Option (List (List (Option zI))) := cnRqz (Nat.ble 159 mi) (some zi_159) (some zi_158)
noncomputable def zjN79 (mi : Nat) : Option (List (List (Option zI))) := cnRqz (Nat.ble 160 mi) (zjN77 mi) (zjN78 mi)
noncomputable def zjN80 (mi : Nat) : Option (List (List (Option zI))) := cnRqz (Nat.ble 162 mi) (zjN76 mi) (zjN79 mi)
noncomputable def zjN81 (mi : Nat) : Option (List (List (Option zI))) := cnRqz (Nat.ble 157 mi) (some zi_157) (some zi_156)
noncomputable def zjN82 (mi : Nat) : Option (List (List (Option zI))) := cnRqz (Nat.ble 155 mi) (some zi_155) (some zi_154)
noncomputable def zjN83 (mi : Nat) : Option (List (List (Option zI))) := cnRqz (Nat.ble 156 mi) (zjN81 mi) (zjN82 mi)
noncomputable def zjN84 (mi : Nat) : Option (List (List (Option zI))) := cnRqz (Nat.ble 153 mi) (some zi_153) (some zi_152)
noncomputable def zjN85 (mi : Nat) : Option (List (List (Option zI))) := cnRqz (Nat.ble 152 mi) (zjN84 mi) (some zi_151)
noncomputable def zjN86 (mi : Nat) : Option (List (List (Option zI))) := cnRqz (Nat.ble 154 mi) (zjN83 mi) (zjN85 mi)
noncomputable def zjN87 (mi : Nat) : Option (List (List (Option zI))) := cnRqz (Nat.ble 158 mi) (zjN80 mi) (zjN86 mi)
noncomputable def zjN88 (mi : Nat) : Option (List (List (Option zI))) := cnRqz (Nat.ble 166 mi) (zjN73 mi) (zjN87 mi)
noncomputable def zjN89 (mi : Nat) : Option (List (List (Option zI))) := cnRqz (Nat.ble 150 mi) (some zi_150) (some zi_149)
noncomputable def zjN90 (mi : Nat) : Option (List (List (Option zI))) := cnRqz (Nat.ble 148 mi) (some zi_148) (some zi_147)
noncomputable def zjN91 (mi : Nat) : Option (List (List (Option zI))) := cnRqz (Nat.ble 149 mi) (zjN89 mi) (zjN90 mi)
noncomputable def zjN92 (mi : Nat) : Option (List (List (Option zI))) := cnRqz (Nat.ble 146 mi) (some zi_146) (some zi_145)
noncomputable def zjN93 (mi : Nat) : Option (List (List (Option zI))) := cnRqz (Nat.ble 144 mi) (some zi_144) (some zi_143)
noncomputable def zjN94 (mi : Nat) : Option (List (List (Option zI))) := cnRqz (Nat.ble 145 mi) (zjN92 mi) (zjN93 mi)
noncomputable def zjN95 (mi : Nat) : Option (List (List (Option zI))) := cnRqz (Nat.ble 147 mi) (zjN91 mi) (zjN94 mi)
noncomputable def zjN96 (mi : Nat) : Option (List (List (Option zI))) := cnRqz (Nat.ble 142 mi) (some zi_142) (some zi_141)
noncomputable def zjN97 (mi : Nat) : Option (List (List (Option zI))) := cnRqz (Nat.ble 140 mi) (some zi_140) (some zi_139)
noncomputable def zjN98 (mi : Nat) : Option (List (List (Option zI))) := cnRqz (Nat.ble 141 mi) (zjN96 mi) (zjN97 mi)
noncomputable def zjN99 (mi : Nat) : Option (List (List (Option zI))) := cnRqz (Nat.ble 138 mi) (some zi_138) (some zi_137)
noncomputable def zjN100 (mi : Nat) : Option (List (List (Option zI))) := cnRqz (Nat.ble 137 mi) (zjN99 mi) (some zi_136)
noncomputable def zjN101 (mi : Nat) : Option (List (List (Option zI))) := cnRqz (Nat.ble 139 mi) (zjN98 mi) (zjN100 mi)
noncomputable def zjN102 (mi : Nat) : Option (List (List (Option zI))) := cnRqz (Nat.ble 143 mi) (zjN95 mi) (zjN101 mi)
noncomputable def zjN103 (mi : Nat) : Option (List (List (Option zI))) := cnRqz (Nat.ble 135 mi) (some zi_135) (some zi_134)
noncomputable def zjN104 (mi : Nat) : Option (List (List (Option zI))) := cnRqz (Nat.ble 133 mi) (some zi_133) (some zi_132)
noncomputable def zjN105 (mi : Nat) : Option (List (List (Option zI))) := cnRqz (Nat.ble 134 mi) (zjN103 mi) (zjN104 mi)
noncomputable def zjN106 (mi : Nat) : Option (List (List (Option zI))) := cnRqz (Nat.ble 131 mi) (some zi_131) (some zi_130)
noncomputable def zjN107 (mi : Nat) : Option (List (List (Option zI))) := cnRqz (Nat.ble 129 mi) (some zi_129) (some zi_128)
noncomputable def zjN108 (mi : Nat) : Option (List (List (Option zI))) := cnRqz (Nat.ble 130 mi) (zjN106 mi) (zjN107 mi)
noncomputable def zjN109 (mi : Nat) : Option (List (List (Option zI))) := cnRqz (Nat.ble 132 mi) (zjN105 mi) (zjN108 mi)
noncomputable def zjN110 (mi : Nat) : Option (List (List (Option zI))) := cnRqz (Nat.ble 127 mi) (some zi_127) (some zi_126)
noncomputable def zjN111 (mi : Nat) : Option (List (List (Option zI))) := cnRqz (Nat.ble 125 mi) (some zi_125) (some zi_124)
noncomputable def zjN112 (mi : Nat) : Option (List (List (Option zI))) := cnRqz (Nat.ble 126 mi) (zjN110 mi) (zjN111 mi)
noncomputable def zjN113 (mi : Nat) : Option (List (List (Option zI))) := cnRqz (Nat.ble 123 mi) (some zi_123) (some zi_122)
noncomputable def zjN114 (mi : Nat) : Option (List (List (Option zI))) := cnRqz (Nat.ble 122 mi) (zjN113 mi) (some zi_121)
noncomputable def zjN115 (mi : Nat) : Option (List (List (Option zI))) := cnRqz (Nat.ble 124 mi) (zjN112 mi) (zjN114 mi)
noncomputable def zjN116 (mi : Nat) : Option (List (List (Option zI))) := cnRqz (Nat.ble 128 mi) (zjN109 mi) (zjN115 mi)
noncomputable def zjN117 (mi : Nat) : Option (List (List (Option zI))) := cnRqz (Nat.ble 136 mi) (zjN102 mi) (zjN116 mi)
noncomputable def zjN118 (mi : Nat) : Option (List (List (Option zI))) := cnRqz (Nat.ble 151 mi) (zjN88 mi) (zjN117 mi)
noncomputable def zjN119 (mi : Nat) : Option (List (List (Option zI))) := cnRqz (Nat.ble 181 mi) (zjN59 mi) (zjN118 mi)
noncomputable def zjN120 (mi : Nat) : Option (List (List (Option zI))) := cnRqz (Nat.ble 120 mi) (some zi_120) (some zi_119)
noncomputable def zjN121 (mi : Nat) : Option (List (List (Option zI))) := cnRqz (Nat.ble 118 mi) (some zi_118) (some zi_117)
noncomputable def zjN122 (mi : Nat) : Option (List (List (Option zI))) := cnRqz (Nat.ble 119 mi) (zjN120 mi) (zjN121 mi)
noncomputable def zjN123 (mi : Nat) : Option (List (List (Option zI))) := cnRqz (Nat.ble 116 mi) (some zi_116) (some zi_115)
noncomputable def zjN124 (mi : Nat) : Option (List (List (Option zI))) := cnRqz (Nat.ble 114 mi) (some zi_114) (some zi_113)
noncomputable def zjN125 (mi : Nat) : Option (List (List (Option zI))) := cnRqz (Nat.ble 115 mi) (zjN123 mi) (zjN124 mi)
noncomputable def zjN126 (mi : Nat) : Option (List (List (Option zI))) := cnRqz (Nat.ble 117 mi) (zjN122 mi) (zjN125 mi)
noncomputable def zjN127 (mi : Nat) : Option (List (List (Option zI))) := cnRqz (Nat.ble 112 mi) (some zi_112) (some zi_111)
noncomputable def zjN128 (mi : Nat) : Option (List (List (Option zI))) := cnRqz (Nat.ble 110 mi) (some zi_110) (some zi_109)
noncomputable def zjN129 (mi : Nat) : Option (List (List (Option zI))) := cnRqz (Nat.ble 111 mi) (zjN127 mi) (zjN128 mi)
noncomputable def zjN130 (mi : Nat) : Option (List (List (Option zI))) := cnRqz (Nat.ble 108 mi) (some zi_108) (some zi_107)
noncomputable def zjN131 (mi : Nat) : Option (List (List (Option zI))) := cnRqz (Nat.ble 106 mi) (some zi_106) (some zi_105)
noncomputable def zjN132 (mi : Nat) : Option (List (List (Option zI))) := cnRqz (Nat.ble 107 mi) (zjN130 mi) (zjN131 mi)
noncomputable def zjN133 (mi : Nat) : Option (List (List (Option zI))) := cnRqz (Nat.ble 109 mi) (zjN129 mi) (zjN132 mi)
noncomputable def zjN134 (mi : Nat) : Option (List (List (Option zI))) := cnRqz (Nat.ble 113 mi) (zjN126 mi) (zjN133 mi)
noncomputable def zjN135 (mi : Nat) : Option (List (List (Option zI))) := cnRqz (Nat.ble 104 mi) (some zi_104) (some zi_103)
noncomputable def zjN136 (mi : Nat) : Option (List (List (Option zI))) := cnRqz (Nat.ble 102 mi) (some zi_102) (some zi_101)
noncomputable def zjN137 (mi : Nat) : Option (List (List (Option zI))) := cnRqz (Nat.ble 103 mi) (zjN135 mi) (zjN136 mi)
noncomputable def zjN138 (mi : Nat) : Option (List (List (Option zI))) := cnRqz (Nat.ble 100 mi) (some zi_100) (some zi_99)
noncomputable def zjN139 (mi : Nat) : Option (List (List (Option zI))) := cnRqz (Nat.ble 98 mi) (some zi_98) (some zi_97)
noncomputable def zjN140 (mi : Nat) : Option (List (List (Option zI))) := cnRqz (Nat.ble 99 mi) (zjN138 mi) (zjN139 mi)
noncomputable def zjN141 (mi : Nat) : Option (List (List (Option zI))) := cnRqz (Nat.ble 101 mi) (zjN137 mi) (zjN140 mi)
noncomputable def zjN142 (mi : Nat) : Option (List (List (Option zI))) := cnRqz (Nat.ble 96 mi) (some zi_96) (some zi_95)
noncomputable def zjN143 (mi : Nat) : Option (List (List (Option zI))) := cnRqz (Nat.ble 94 mi) (some zi_94) (some zi_93)
noncomputable def zjN144 (mi : Nat) : Option (List (List (Option zI))) := cnRqz (Nat.ble 95 mi) (zjN142 mi) (zjN143 mi)
noncomputable def zjN145 (mi : Nat) : Option (List (List (Option zI))) := cnRqz (Nat.ble 92 mi) (some zi_92) (some zi_91)
noncomputable def zjN146 (mi : Nat) : Option (List (List (Option zI))) := cnRqz (Nat.ble 91 mi) (zjN145 mi) (some zi_90)
noncomputable def zjN147 (mi : Nat) : Option (List (List (Option zI))) := cnRqz (Nat.ble 93 mi) (zjN144 mi) (zjN146 mi)
noncomputable def zjN148 (mi : Nat) : Option (List (List (Option zI))) := cnRqz (Nat.ble 97 mi) (zjN141 mi) (zjN147 mi)
noncomputable def zjN149 (mi : Nat) : Option (List (List (Option zI))) := cnRqz (Nat.ble 105 mi) (zjN134 mi) (zjN148 mi)
noncomputable def zjN150 (mi : Nat) : Option (List (List (Option zI))) := cnRqz (Nat.ble 89 mi) (some zi_89) (some zi_88)
noncomputable def zjN151 (mi : Nat) : Option (List (List (Option zI))) := cnRqz (Nat.ble 87 mi) (some zi_87) (some zi_86)
noncomputable def zjN152 (mi : Nat) : Option (List (List (Option zI))) := cnRqz (Nat.ble 88 mi) (zjN150 mi) (zjN151 mi)
noncomputable def zjN153 (mi : Nat) : Option (List (List (Option zI))) := cnRqz (Nat.ble 85 mi) (some zi_85) (some zi_84)
noncomputable def zjN154 (mi : Nat) : Option (List (List (Option zI))) := cnRqz (Nat.ble 83 mi) (some zi_83) (some zi_82)
noncomputable def zjN155 (mi : Nat) : Option (List (List (Option zI))) := cnRqz (Nat.ble 84 mi) (zjN153 mi) (zjN154 mi)
noncomputable def zjN156 (mi : Nat) : Option (List (List (Option zI))) := cnRqz (Nat.ble 86 mi) (zjN152 mi) (zjN155 mi)
noncomputable def zjN157 (mi : Nat) : Option (List (List (Option zI))) := cnRqz (Nat.ble 81 mi) (some zi_81) (some zi_80)
noncomputable def zjN158 (mi : Nat) : Option (List (List (Option zI))) := cnRqz (Nat.ble 79 mi) (some zi_79) (some zi_78)
noncomputable def zjN159 (mi : Nat) : Option (List (List (Option zI))) := cnRqz (Nat.ble 80 mi) (zjN157 mi) (zjN158 mi)
noncomputable def zjN160 (mi : Nat) : Option (List (List (Option zI))) := cnRqz (Nat.ble 77 mi) (some zi_77) (some zi_76)
noncomputable def zjN161 (mi : Nat) : Option (List (List (Option zI))) := cnRqz (Nat.ble 76 mi) (zjN160 mi) (some zi_75)
noncomputable def zjN162 (mi : Nat) : Option (List (List (Option zI))) := cnRqz (Nat.ble 78 mi) (zjN159 mi) (zjN161 mi)
noncomputable def zjN163 (mi : Nat) : Option (List (List (Option zI))) := cnRqz (Nat.ble 82 mi) (zjN156 mi) (zjN162 mi)
noncomputable def zjN164 (mi : Nat) : Option (List (List (Option zI))) := cnRqz (Nat.ble 74 mi) (some zi_74) (some zi_73)
noncomputable def zjN165 (mi : Nat) : Option (List (List (Option zI))) := cnRqz (Nat.ble 72 mi) (some zi_72) (some zi_71)
noncomputable def zjN166 (mi : Nat) : Option (List (List (Option zI))) := cnRqz (Nat.ble 73 mi) (zjN164 mi) (zjN165 mi)
noncomputable def zjN167 (mi : Nat) : Option (List (List (Option zI))) := cnRqz (Nat.ble 70 mi) (some zi_70) (some zi_69)
noncomputable def zjN168 (mi : Nat) : Option (List (List (Option zI))) := cnRqz (Nat.ble 68 mi) (some zi_68) (some zi_67)
noncomputable def zjN169 (mi : Nat) : Option (List (List (Option zI))) := cnRqz (Nat.ble 69 mi) (zjN167 mi) (zjN168 mi)
noncomputable def zjN170 (mi : Nat) : Option (List (List (Option zI))) := cnRqz (Nat.ble 71 mi) (zjN166 mi) (zjN169 mi)
noncomputable def zjN171 (mi : Nat) : Option (List (List (Option zI))) := cnRqz (Nat.ble 66 mi) (some zi_66) (some zi_65)
noncomputable def zjN172 (mi : Nat) : Option (List (List (Option zI))) := cnRqz (Nat.ble 64 mi) (some zi_64) (some zi_63)
noncomputable def zjN173 (mi : Nat) : Option (List (List (Option zI))) := cnRqz (Nat.ble 65 mi) (zjN171 mi) (zjN172 mi)
noncomputable def zjN174 (mi : Nat) : Option (List (List (Option zI))) := cnRqz (Nat.ble 62 mi) (some zi_62) (some zi_61)
noncomputable def zjN175 (mi : Nat) : Option (List (List (Option zI))) := cnRqz (Nat.ble 61 mi) (zjN174 mi) (some zi_60)
noncomputable def zjN176 (mi : Nat) : Option (List (List (Option zI))) := cnRqz (Nat.ble 63 mi) (zjN173 mi) (zjN175 mi)
noncomputable def zjN177 (mi : Nat) : Option (List (List (Option zI))) := cnRqz (Nat.ble 67 mi) (zjN170 mi) (zjN176 mi)
noncomputable def zjN178 (mi : Nat) : Option (List (List (Option zI))) := cnRqz (Nat.ble 75 mi) (zjN163 mi) (zjN177 mi)
noncomputable def zjN179 (mi : Nat) : Option (List (List (Option zI))) := cnRqz (Nat.ble 90 mi) (zjN149 mi) (zjN178 mi)
noncomputable def zjN180 (mi : Nat) : Option (List (List (Option zI))) := cnRqz (Nat.ble 59 mi) (some zi_59) (some zi_58)
noncomputable def zjN181 (mi : Nat) : Option (List (List (Option zI))) := cnRqz (Nat.ble 57 mi) (some zi_57) (some zi_56)
noncomputable def zjN182 (mi : Nat) : Option (List (List (Option zI))) := cnRqz (Nat.ble 58 mi) (zjN180 mi) (zjN181 mi)
noncomputable def zjN183 (mi : Nat) : Option (List (List (Option zI))) := cnRqz (Nat.ble 55 mi) (some zi_55) (some zi_54)
noncomputable def zjN184 (mi : Nat) : Option (List (List (Option zI))) := cnRqz (Nat.ble 53 mi) (some zi_53) (some zi_52)
noncomputable def zjN185 (mi : Nat) : Option (List (List (Option zI))) := cnRqz (Nat.ble 54 mi) (zjN183 mi) (zjN184 mi)
noncomputable def zjN186 (mi : Nat) : Option (List (List (Option zI))) := cnRqz (Nat.ble 56 mi) (zjN182 mi) (zjN185 mi)
noncomputable def zjN187 (mi : Nat) : Option (List (List (Option zI))) := cnRqz (Nat.ble 51 mi) (some zi_51) (some zi_50)
noncomputable def zjN188 (mi : Nat) : Option (List (List (Option zI))) := cnRqz (Nat.ble 49 mi) (some zi_49) (some zi_48)
noncomputable def zjN189 (mi : Nat) : Option (List (List (Option zI))) := cnRqz (Nat.ble 50 mi) (zjN187 mi) (zjN188 mi)
noncomputable def zjN190 (mi : Nat) : Option (List (List (Option zI))) := cnRqz (Nat.ble 47 mi) (some zi_47) (some zi_46)
noncomputable def zjN191 (mi : Nat) : Option (List (List (Option zI))) := cnRqz (Nat.ble 46 mi) (zjN190 mi) (some zi_45)
noncomputable def zjN192 (mi : Nat) : Option (List (List (Option zI))) := cnRqz (Nat.ble 48 mi) (zjN189 mi) (zjN191 mi)
noncomputable def zjN193 (mi : Nat) : Option (List (List (Option zI))) := cnRqz (Nat.ble 52 mi) (zjN186 mi) (zjN192 mi)
noncomputable def zjN194 (mi : Nat) : Option (List (List (Option zI))) := cnRqz (Nat.ble 44 mi) (some zi_44) (some zi_43)
noncomputable def zjN195 (mi : Nat) : Option (List (List (Option zI))) := cnRqz (Nat.ble 42 mi) (some zi_42) (some zi_41)
noncomputable def zjN196 (mi : Nat) : Option (List (List (Option zI))) := cnRqz (Nat.ble 43 mi) (zjN194 mi) (zjN195 mi)
noncomputable def zjN197 (mi : Nat) : Option (List (List (Option zI))) := cnRqz (Nat.ble 40 mi) (some zi_40) (some zi_39)
noncomputable def zjN198 (mi : Nat) : Option (List (List (Option zI))) := cnRqz (Nat.ble 38 mi) (some zi_38) (some zi_37)
noncomputable def zjN199 (mi : Nat) : Option (List (List (Option zI))) := cnRqz (Nat.ble 39 mi) (zjN197 mi) (zjN198 mi)
noncomputable def zjN200 (mi : Nat) : Option (List (List (Option zI))) := cnRqz (Nat.ble 41 mi) (zjN196 mi) (zjN199 mi)
noncomputable def zjN201 (mi : Nat) : Option (List (List (Option zI))) := cnRqz (Nat.ble 36 mi) (some zi_36) (some zi_35)
noncomputable def zjN202 (mi : Nat) : Option (List (List (Option zI))) := cnRqz (Nat.ble 34 mi) (some zi_34) (some zi_33)
noncomputable def zjN203 (mi : Nat) : Option (List (List (Option zI))) := cnRqz (Nat.ble 35 mi) (zjN201 mi) (zjN202 mi)
noncomputable def zjN204 (mi : Nat) : Option (List (List (Option zI))) := cnRqz (Nat.ble 32 mi) (some zi_32) (some zi_31)
noncomputable def zjN205 (mi : Nat) : Option (List (List (Option zI))) := cnRqz (Nat.ble 31 mi) (zjN204 mi) (some zi_30)
noncomputable def zjN206 (mi : Nat) : Option (List (List (Option zI))) := cnRqz (Nat.ble 33 mi) (zjN203 mi) (zjN205 mi)
noncomputable def zjN207 (mi : Nat) : Option (List (List (Option zI))) := cnRqz (Nat.ble 37 mi) (zjN200 mi) (zjN206 mi)
noncomputable def zjN208 (mi : Nat) : Option (List (List (Option zI))) := cnRqz (Nat.ble 45 mi) (zjN193 mi) (zjN207 mi)
noncomputable def zjN209 (mi : Nat) : Option (List (List (Option zI))) := cnRqz (Nat.ble 29 mi) (some zi_29) (some zi_28)
noncomputable def zjN210 (mi : Nat) : Option (List (List (Option zI))) := cnRqz (Nat.ble 27 mi) (some zi_27) (some zi_26)
noncomputable def zjN211 (mi : Nat) : Option (List (List (Option zI))) := cnRqz (Nat.ble 28 mi) (zjN209 mi) (zjN210 mi)
noncomputable def zjN212 (mi : Nat) : Option (List (List (Option zI))) := cnRqz (Nat.ble 25 mi) (some zi_25) (some zi_24)
noncomputable def zjN213 (mi : Nat) : Option (List (List (Option zI))) := cnRqz (Nat.ble 23 mi) (some zi_23) (some zi_22)
noncomputable def zjN214 (mi : Nat) : Option (List (List (Option zI))) := cnRqz (Nat.ble 24 mi) (zjN212 mi) (zjN213 mi)
noncomputable def zjN215 (mi : Nat) : Option (List (List (Option zI))) := cnRqz (Nat.ble 26 mi) (zjN211 mi) (zjN214 mi)
noncomputable def zjN216 (mi : Nat) : Option (List (List (Option zI))) := cnRqz (Nat.ble 21 mi) (some zi_21) (some zi_20)
noncomputable def zjN217 (mi : Nat) : Option (List (List (Option zI))) := cnRqz (Nat.ble 19 mi) (some zi_19) (some zi_18)
noncomputable def zjN218 (mi : Nat) : Option (List (List (Option zI))) := cnRqz (Nat.ble 20 mi) (zjN216 mi) (zjN217 mi)
noncomputable def zjN219 (mi : Nat) : Option (List (List (Option zI))) := cnRqz (Nat.ble 17 mi) (some zi_17) (some zi_16)
noncomputable def zjN220 (mi : Nat) : Option (List (List (Option zI))) := cnRqz (Nat.ble 16 mi) (zjN219 mi) (some zi_15)
noncomputable def zjN221 (mi : Nat) : Option (List (List (Option zI))) := cnRqz (Nat.ble 18 mi) (zjN218 mi) (zjN220 mi)
noncomputable def zjN222 (mi : Nat) : Option (List (List (Option zI))) := cnRqz (Nat.ble 22 mi) (zjN215 mi) (zjN221 mi)
noncomputable def zjN223 (mi : Nat) : Option (List (List (Option zI))) := cnRqz (Nat.ble 14 mi) (some zi_14) (some zi_13)
noncomputable def zjN224 (mi : Nat) : Option (List (List (Option zI))) := cnRqz (Nat.ble 12 mi) (some zi_12) (some zi_11)
noncomputable def zjN225 (mi : Nat) : Option (List (List (Option zI))) := cnRqz (Nat.ble 13 mi) (zjN223 mi) (zjN224 mi)
noncomputable def zjN226 (mi : Nat) : Option (List (List (Option zI))) := cnRqz (Nat.ble 10 mi) (some zi_10) (some zi_9)
noncomputable def zjN227 (mi : Nat) : Option (List (List (Option zI))) := cnRqz (Nat.ble 8 mi) (some zi_8) (some zi_7)
noncomputable def zjN228 (mi : Nat) : Option (List (List (Option zI))) := cnRqz (Nat.ble 9 mi) (zjN226 mi) (zjN227 mi)
noncomputable def zjN229 (mi : Nat) : Option (List (List (Option zI))) := cnRqz (Nat.ble 11 mi) (zjN225 mi) (zjN228 mi)
noncomputable def zjN230 (mi : Nat) : Option (List (List (Option zI))) := cnRqz (Nat.ble 6 mi) (some zi_6) (some zi_5)
noncomputable def zjN231 (mi : Nat) : Option (List (List (Option zI))) := cnRqz (Nat.ble 4 mi) (some zi_4) (some zi_3)
noncomputable def zjN232 (mi : Nat) : Option (List (List (Option zI))) := cnRqz (Nat.ble 5 mi) (zjN230 mi) (zjN231 mi)
noncomputable def zjN233 (mi : Nat) : Option (List (List (Option zI))) := cnRqz (Nat.ble 2 mi) (some zi_2) (some zi_1)
noncomputable def zjN234 (mi : Nat) : Option (List (List (Option zI))) := cnRqz (Nat.ble 1 mi) (zjN233 mi) (some zi_0)
noncomputable def zjN235 (mi : Nat) : Option (List (List (Option zI))) := cnRqz (Nat.ble 3 mi) (zjN232 mi) (zjN234 mi)
noncomputable def zjN236 (mi : Nat) : Option (List (List (Option zI))) := cnRqz (Nat.ble 7 mi) (zjN229 mi) (zjN235 mi)
noncomputable def zjN237 (mi : Nat) : Option (List (List (Option zI))) := cnRqz (Nat.ble 15 mi) (zjN222 mi) (zjN236 mi)
noncomputable def zjN238 (mi : Nat) : Option (List (List (Option zI))) := cnRqz (Nat.ble 30 mi) (zjN208 mi) (zjN237 mi)
noncomputable def zjN239 (mi : Nat) : Option (List (List (Option zI))) := cnRqz (Nat.ble 60 mi) (zjN179 mi) (zjN238 mi)
noncomputable def zjN240 (mi : Nat) : Option (List (List (Option zI))) := cnRqz (Nat.ble 121 mi) (zjN119 mi) (zjN239 mi)
noncomputable def zjN241 (mi : Nat) : Option (List (List (Option zI))) := cnRqz (Nat.ble 242 mi) (none) (zjN240 mi)
noncomputable def zjmN (mi : Nat) : Option (List (List (Option zI))) := (zjN241 mi)
noncomputable def zif3N (mi pc : Nat) : Option zI := match zjmN mi with
  | some t_s => (match zgf t_s (pc / 16) with
    | some r_s => (match zgf r_s (pc % 16) with
      | some e_s => e_s
      | none => none)
    | none => none)
  | none => none
theorem zjmN_e : @zjmN = @zjm := by
  delta zjmN zjN0 zjN1 zjN2 zjN3 zjN4 zjN5 zjN6 zjN7 zjN8 zjN9 zjN10 zjN11 zjN12 zjN13 zjN14 zjN15 zjN16 zjN17 zjN18 zjN19 zjN20 zjN21 zjN22 zjN23 zjN24 zjN25 zjN26 zjN27 zjN28 zjN29 zjN30 zjN31 zjN32 zjN33 zjN34 zjN35 zjN36 zjN37 zjN38 zjN39 zjN40 zjN41 zjN42 zjN43 zjN44 zjN45 zjN46 zjN47 zjN48 zjN49 zjN50 zjN51 zjN52 zjN53 zjN54 zjN55 zjN56 zjN57 zjN58 zjN59 zjN60 zjN61 zjN62 zjN63 zjN64 zjN65 zjN66 zjN67 zjN68 zjN69 zjN70 zjN71 zjN72 zjN73 zjN74 zjN75 zjN76 zjN77 zjN78 zjN79 zjN80 zjN81 zjN82 zjN83 zjN84 zjN85 zjN86 zjN87 zjN88 zjN89 zjN90 zjN91 zjN92 zjN93 zjN94 zjN95 zjN96 zjN97 zjN98 zjN99 zjN100 zjN101 zjN102 zjN103 zjN104 zjN105 zjN106 zjN107 zjN108 zjN109 zjN110 zjN111 zjN112 zjN113 zjN114 zjN115 zjN116 zjN117 zjN118 zjN119 zjN120 zjN121 zjN122 zjN123 zjN124 zjN125 zjN126 zjN127 zjN128 zjN129 zjN130 zjN131 zjN132 zjN133 zjN134 zjN135 zjN136 zjN137 zjN138 zjN139 zjN140 zjN141 zjN142 zjN143 zjN144 zjN145 zjN146 zjN147 zjN148 zjN149 zjN150 zjN151 zjN152 zjN153 zjN154 zjN155 zjN156 zjN157 zjN158 zjN159 zjN160 zjN161 zjN162 zjN163 zjN164 zjN165 zjN166 zjN167 zjN168 zjN169 zjN170 zjN171 zjN172 zjN173 zjN174 zjN175 zjN176 zjN177 zjN178 zjN179 zjN180 zjN181 zjN182 zjN183 zjN184 zjN185 zjN186 zjN187 zjN188 zjN189 zjN190 zjN191 zjN192 zjN193 zjN194 zjN195 zjN196 zjN197 zjN198 zjN199 zjN200 zjN201 zjN202 zjN203 zjN204 zjN205 zjN206 zjN207 zjN208 zjN209 zjN210 zjN211 zjN212 zjN213 zjN214 zjN215 zjN216 zjN217 zjN218 zjN219 zjN220 zjN221 zjN222 zjN223 zjN224 zjN225 zjN226 zjN227 zjN228 zjN229 zjN230 zjN231 zjN232 zjN233 zjN234 zjN235 zjN236 zjN237 zjN238 zjN239 zjN240 zjN241 zjm
  rw [cnRqz_e]
theorem zif3N_e : @zif3N = @zif3 := by
  delta zif3N zif3
  rw [zjmN_e]
  first | done | rfl
noncomputable def anrmRqw (X_s : aX) : aX := (X_s.1, X_s.2.1, X_s.2.2.1, X_s.2.2.2.1, mpRqz (an1Rq X_s.1) X_s.2.2.2.2)
theorem anrmRqw_e : @anrmRqw = @anrmRq := by
  delta anrmRqw anrmRq
  rw [mpRqz_e]
  first | done | rfl
noncomputable def adf1Rqw (e_s : zI) (X_s : aX) : aDf := cnRqz (Nat.beq e_s.1 7) (cnRqz (Nat.beq e_s.2.2.2.1 1) (adf2Rq X_s) []) []
theorem adf1Rqw_e : @adf1Rqw = @adf1Rq := by
  funext e_s X_s
  rcases e_s with ⟨op_s, len_s, a_s, b_s, c_s, v_s, sw_s⟩
  show cnRqz (Nat.beq op_s 7) (cnRqz (Nat.beq b_s 1) (adf2Rq X_s) []) [] = cnRqz (Nat.beq op_s 7 && Nat.beq b_s 1) (adf2Rq X_s) []
  cases Nat.beq op_s 7 <;> cases Nat.beq b_s 1 <;> rfl
noncomputable def adq1Rqw (e_s : zI) (X_s : aX) : aDq := cnRqz (Nat.beq e_s.1 8) (adq2Rq e_s.2.2.2.1 X_s) []
theorem adq1Rqw_e : @adq1Rqw = @adq1Rq := by
  funext e_s X_s
  rcases e_s with ⟨op_s, len_s, a_s, b_s, c_s, v_s, sw_s⟩
  rfl
noncomputable def adb1Rqw (pc : Nat) (e_s : zI) (X_s : aX) : aD := cnRqz (Nat.beq e_s.1 16) (adb3Rq e_s.2.1 e_s.2.2.1 e_s.2.2.2.1 pc X_s) []
theorem adb1Rqw_e : @adb1Rqw = @adb1Rq := by
  funext pc_s e_s X_s
  rcases e_s with ⟨op_s, len_s, a_s, b_s, c_s, v_s, sw_s⟩
  rfl
noncomputable def ascrRqw (ds : aD) (sl_s : aSc) : zI → aX → Option (aX × aSc) := fun e_s X_s => match sl_s.1 with
  | none => none
  | some k_s => cnRqz (Nat.beq e_s.1 28) ((match X_s.2.2.2.2 with
    | .inr [0] :: r_s => cnRqz (Nat.blt k_s (lnRqz X_s.1)) (some ((X_s.1, X_s.2.1, X_s.2.2.1 + e_s.2.1, X_s.2.2.2.1, .inl (.inl (.inl (k_s, 0))) :: r_s), sl_s)) (none)
    | _ => none)) (cnRqz (Nat.beq e_s.1 22) ((match X_s.2.2.2.2 with
    | .inl (.inl i_s) :: .inr [0] :: r_s => cnRqz (ile 0 (abdRq X_s.1 i_s).1 && ale0Rq X_s.1 ds (alI 1 i_s (alI (-1) (.inl (k_s, 0)) (1, [])))) ((match aldf i_s sl_s.2 with
      | some j_s => some ((X_s.1, X_s.2.1, X_s.2.2.1 + e_s.2.1, X_s.2.2.2.1, .inl (.inl (.inl (j_s, 0))) :: r_s), sl_s)
      | none => some ((apRqz X_s.1 [afull], X_s.2.1, X_s.2.2.1 + e_s.2.1, X_s.2.2.2.1, .inl (.inl (.inl ((lnRqz X_s.1), 0))) :: r_s), (sl_s.1, (i_s, (lnRqz X_s.1)) :: sl_s.2)))) (none)
    | _ => none)) (none))
theorem ascrRqw_e : @ascrRqw = @ascrRq := by
  funext ds_s sl_s e_s X_s
  rcases e_s with ⟨op_s, len_s, a_s, b_s, c_s, v_s, sw_s⟩
  rfl
noncomputable def aspecRqw (S_s : Nat → Option (Nat × Nat)) (e_s : zI) (G_s : aG) (X_s : aX) : Option (aX × aHf) := cnRqz (Nat.beq e_s.1 8) (Option.rec (motive := fun _ => Option (aX × aHf)) none (fun Z_s => some (Z_s, G_s.2.2.2)) (acs2Rq e_s.2.1 e_s.2.2.2.1 G_s.2.2.1 X_s)) (Option.rec (motive := fun _ => Option (aX × aHf)) (cnRqz (Nat.beq e_s.1 23) (along2Rq S_s G_s.1 G_s.2.2.2 e_s.2.1 X_s) none) (fun p_s => some (p_s.1, (G_s.2.2.2.1, G_s.2.2.2.2.1, p_s.2))) (ascrRqw G_s.1 G_s.2.2.2.2.2 e_s X_s))
theorem aspecRqw_e : @aspecRqw = @aspecRq := by
  funext S_s e_s G_s X_s
  rcases e_s with ⟨op_s, len_s, a_s, b_s, c_s, v_s, sw_s⟩
  show cnRqz (Nat.beq op_s 8) (Option.rec (motive := fun _ => Option (aX × aHf)) none (fun Z_s => some (Z_s, G_s.2.2.2)) (acs2Rq len_s b_s G_s.2.2.1 X_s)) (Option.rec (motive := fun _ => Option (aX × aHf)) (cnRqz (Nat.beq op_s 23) (along2Rq S_s G_s.1 G_s.2.2.2 len_s X_s) none) (fun p_s => some (p_s.1, (G_s.2.2.2.1, G_s.2.2.2.2.1, p_s.2))) (ascrRqw G_s.1 G_s.2.2.2.2.2 (op_s, len_s, a_s, b_s, c_s, v_s, sw_s) X_s)) = (match cnRqz (Nat.beq op_s 8) (acs2Rq len_s b_s G_s.2.2.1 X_s) none with
    | some Z_s => some (Z_s, G_s.2.2.2)
    | none => (match ascrRq G_s.1 G_s.2.2.2.2.2 (op_s, len_s, a_s, b_s, c_s, v_s, sw_s) X_s with
      | some p_s => some (p_s.1, (G_s.2.2.2.1, G_s.2.2.2.2.1, p_s.2))
      | none => cnRqz (Nat.beq op_s 23) (along2Rq S_s G_s.1 G_s.2.2.2 len_s X_s) none))
  rw [ascrRqw_e]
  cases hb_s : Nat.beq op_s 8 with
  | true =>
    have ho_s : op_s = 8 := Nat.eq_of_beq_eq_true hb_s
    subst ho_s
    cases acs2Rq len_s b_s G_s.2.2.1 X_s with
    | some Z_s => rfl
    | none =>
      have hn_s : ascrRq G_s.1 G_s.2.2.2.2.2 (8, len_s, a_s, b_s, c_s, v_s, sw_s) X_s = none := by
        unfold ascrRq
        cases G_s.2.2.2.2.2.1 <;> rfl
      rw [hn_s]
      rfl
  | false =>
    cases ascrRq G_s.1 G_s.2.2.2.2.2 (op_s, len_s, a_s, b_s, c_s, v_s, sw_s) X_s <;> rfl
noncomputable def ahkRqw (hf : aHf) (e_s : zI) : aHf := cnRqz (Nat.beq e_s.1 26) (([], [], hf.2.2)) (cnRqz (Nat.beq e_s.1 34) (([], [], hf.2.2)) hf)
theorem ahkRqw_e : @ahkRqw = @ahkRq := by
  funext hf_s e_s
  rcases e_s with ⟨op_s, len_s, a_s, b_s, c_s, v_s, sw_s⟩
  show cnRqz (Nat.beq op_s 26) (([], [], hf_s.2.2)) (cnRqz (Nat.beq op_s 34) (([], [], hf_s.2.2)) hf_s) = cnRqz (Nat.beq op_s 26 || Nat.beq op_s 34) (([], [], hf_s.2.2)) hf_s
  cases Nat.beq op_s 26 <;> cases Nat.beq op_s 34 <;> rfl
noncomputable def acore2eRqw (d_s : Nat) (X_s : aX) (G_s : aG) (mi : Nat) (gs : List aFm) (e_s : zI) (df : aDf) (dq : aDq) (Ys : List aX) : List (Nat × aY) := mpRqz (fun Z_s => (d_s, (Z_s, (cnRqz gs.isEmpty (apRqz (adb1Rqw Z_s.2.2.1 e_s X_s) G_s.1) G_s.1, df, dq, ahkRqw G_s.2.2.2 e_s), mi, gs))) (aprsRq df dq Ys)
noncomputable def zdsp10Rqw (S_s : Nat → Option (Nat × Nat)) (rf : Nat → Nat → List Nat) (B_s : aB) (W_s : Nat → Nat → Bool) (WA : Nat → Bool) (e_s : zI) : (aX → Option aR) × Unit := cnRqz (Nat.blt e_s.1 12) (aq11Rq e_s.2.1, ()) (aq12Rq e_s.2.1, ())
noncomputable def zdsp11Rqw (S_s : Nat → Option (Nat × Nat)) (rf : Nat → Nat → List Nat) (B_s : aB) (W_s : Nat → Nat → Bool) (WA : Nat → Bool) (e_s : zI) : (aX → Option aR) × Unit := cnRqz (Nat.blt e_s.1 15) (aq14Rq e_s.2.1, ()) (aq15Rq e_s.2.1 e_s.2.2.1 e_s.2.2.2.1, ())
noncomputable def zdsp12Rqw (S_s : Nat → Option (Nat × Nat)) (rf : Nat → Nat → List Nat) (B_s : aB) (W_s : Nat → Nat → Bool) (WA : Nat → Bool) (e_s : zI) : (aX → Option aR) × Unit := cnRqz (Nat.blt e_s.1 14) (aq13Rq e_s.2.1, ()) (zdsp11Rqw S_s rf B_s W_s WA e_s)
noncomputable def zdsp13Rqw (S_s : Nat → Option (Nat × Nat)) (rf : Nat → Nat → List Nat) (B_s : aB) (W_s : Nat → Nat → Bool) (WA : Nat → Bool) (e_s : zI) : (aX → Option aR) × Unit := cnRqz (Nat.blt e_s.1 13) (zdsp10Rqw S_s rf B_s W_s WA e_s) (zdsp12Rqw S_s rf B_s W_s WA e_s)
noncomputable def zdsp14Rqw (S_s : Nat → Option (Nat × Nat)) (rf : Nat → Nat → List Nat) (B_s : aB) (W_s : Nat → Nat → Bool) (WA : Nat → Bool) (e_s : zI) : (aX → Option aR) × Unit := cnRqz (Nat.blt e_s.1 18) (aq17 e_s.2.2.1, ()) (aq18Rq e_s.2.2.1 e_s.2.2.2.2.2.2, ())
noncomputable def zdsp15Rqw (S_s : Nat → Option (Nat × Nat)) (rf : Nat → Nat → List Nat) (B_s : aB) (W_s : Nat → Nat → Bool) (WA : Nat → Bool) (e_s : zI) : (aX → Option aR) × Unit := cnRqz (Nat.blt e_s.1 17) (aq16Rq e_s.2.1 e_s.2.2.1 e_s.2.2.2.1, ()) (zdsp14Rqw S_s rf B_s W_s WA e_s)
noncomputable def zdsp16Rqw (S_s : Nat → Option (Nat × Nat)) (rf : Nat → Nat → List Nat) (B_s : aB) (W_s : Nat → Nat → Bool) (WA : Nat → Bool) (e_s : zI) : (aX → Option aR) × Unit := cnRqz (Nat.blt e_s.1 21) (aq20Rq S_s rf B_s e_s.2.1 e_s.2.2.1 e_s.2.2.2.1 e_s.2.2.2.2.1, ()) (aq21xRq S_s rf B_s W_s e_s.2.1 e_s.2.2.1 e_s.2.2.2.1 e_s.2.2.2.2.1, ())
noncomputable def zdsp17Rqw (S_s : Nat → Option (Nat × Nat)) (rf : Nat → Nat → List Nat) (B_s : aB) (W_s : Nat → Nat → Bool) (WA : Nat → Bool) (e_s : zI) : (aX → Option aR) × Unit := cnRqz (Nat.blt e_s.1 20) (aq19Rq e_s.2.1 e_s.2.2.1 e_s.2.2.2.2.2.1, ()) (zdsp16Rqw S_s rf B_s W_s WA e_s)
noncomputable def zdsp18Rqw (S_s : Nat → Option (Nat × Nat)) (rf : Nat → Nat → List Nat) (B_s : aB) (W_s : Nat → Nat → Bool) (WA : Nat → Bool) (e_s : zI) : (aX → Option aR) × Unit := cnRqz (Nat.blt e_s.1 19) (zdsp15Rqw S_s rf B_s W_s WA e_s) (zdsp17Rqw S_s rf B_s W_s WA e_s)
noncomputable def zdsp19Rqw (S_s : Nat → Option (Nat × Nat)) (rf : Nat → Nat → List Nat) (B_s : aB) (W_s : Nat → Nat → Bool) (WA : Nat → Bool) (e_s : zI) : (aX → Option aR) × Unit := cnRqz (Nat.blt e_s.1 16) (zdsp13Rqw S_s rf B_s W_s WA e_s) (zdsp18Rqw S_s rf B_s W_s WA e_s)
noncomputable def zdsp0Rqw (S_s : Nat → Option (Nat × Nat)) (rf : Nat → Nat → List Nat) (B_s : aB) (W_s : Nat → Nat → Bool) (WA : Nat → Bool) (e_s : zI) : (aX → Option aR) × Unit := cnRqz (Nat.blt e_s.1 1) (aq0 e_s.2.1 e_s.2.2.2.2.2.1, ()) (aq1Rq e_s.2.1 e_s.2.2.1, ())
noncomputable def zdsp1Rqw (S_s : Nat → Option (Nat × Nat)) (rf : Nat → Nat → List Nat) (B_s : aB) (W_s : Nat → Nat → Bool) (WA : Nat → Bool) (e_s : zI) : (aX → Option aR) × Unit := cnRqz (Nat.blt e_s.1 4) (aq3Rq e_s.2.1 e_s.2.2.1, ()) (aq4Rq e_s.2.1 e_s.2.2.1, ())
noncomputable def zdsp2Rqw (S_s : Nat → Option (Nat × Nat)) (rf : Nat → Nat → List Nat) (B_s : aB) (W_s : Nat → Nat → Bool) (WA : Nat → Bool) (e_s : zI) : (aX → Option aR) × Unit := cnRqz (Nat.blt e_s.1 3) (aq2Rq e_s.2.1 e_s.2.2.1, ()) (zdsp1Rqw S_s rf B_s W_s WA e_s)
noncomputable def zdsp3Rqw (S_s : Nat → Option (Nat × Nat)) (rf : Nat → Nat → List Nat) (B_s : aB) (W_s : Nat → Nat → Bool) (WA : Nat → Bool) (e_s : zI) : (aX → Option aR) × Unit := cnRqz (Nat.blt e_s.1 2) (zdsp0Rqw S_s rf B_s W_s WA e_s) (zdsp2Rqw S_s rf B_s W_s WA e_s)
noncomputable def zdsp4Rqw (S_s : Nat → Option (Nat × Nat)) (rf : Nat → Nat → List Nat) (B_s : aB) (W_s : Nat → Nat → Bool) (WA : Nat → Bool) (e_s : zI) : (aX → Option aR) × Unit := cnRqz (Nat.blt e_s.1 7) (aq6Rq e_s.2.1 e_s.2.2.1, ()) (aq7Rq e_s.2.1 e_s.2.2.2.1, ())
noncomputable def zdsp5Rqw (S_s : Nat → Option (Nat × Nat)) (rf : Nat → Nat → List Nat) (B_s : aB) (W_s : Nat → Nat → Bool) (WA : Nat → Bool) (e_s : zI) : (aX → Option aR) × Unit := cnRqz (Nat.blt e_s.1 6) (aq5Rq e_s.2.1 e_s.2.2.1, ()) (zdsp4Rqw S_s rf B_s W_s WA e_s)
noncomputable def zdsp6Rqw (S_s : Nat → Option (Nat × Nat)) (rf : Nat → Nat → List Nat) (B_s : aB) (W_s : Nat → Nat → Bool) (WA : Nat → Bool) (e_s : zI) : (aX → Option aR) × Unit := cnRqz (Nat.blt e_s.1 10) (aq9Rq e_s.2.1 e_s.2.2.2.1, ()) (aq10 e_s.2.1, ())
noncomputable def zdsp7Rqw (S_s : Nat → Option (Nat × Nat)) (rf : Nat → Nat → List Nat) (B_s : aB) (W_s : Nat → Nat → Bool) (WA : Nat → Bool) (e_s : zI) : (aX → Option aR) × Unit := cnRqz (Nat.blt e_s.1 9) (aq8Rq e_s.2.1 e_s.2.2.2.1, ()) (zdsp6Rqw S_s rf B_s W_s WA e_s)
noncomputable def zdsp8Rqw (S_s : Nat → Option (Nat × Nat)) (rf : Nat → Nat → List Nat) (B_s : aB) (W_s : Nat → Nat → Bool) (WA : Nat → Bool) (e_s : zI) : (aX → Option aR) × Unit := cnRqz (Nat.blt e_s.1 8) (zdsp5Rqw S_s rf B_s W_s WA e_s) (zdsp7Rqw S_s rf B_s W_s WA e_s)
noncomputable def zdsp9Rqw (S_s : Nat → Option (Nat × Nat)) (rf : Nat → Nat → List Nat) (B_s : aB) (W_s : Nat → Nat → Bool) (WA : Nat → Bool) (e_s : zI) : (aX → Option aR) × Unit := cnRqz (Nat.blt e_s.1 5) (zdsp3Rqw S_s rf B_s W_s WA e_s) (zdsp8Rqw S_s rf B_s W_s WA e_s)
noncomputable def zdsp20Rqw (S_s : Nat → Option (Nat × Nat)) (rf : Nat → Nat → List Nat) (B_s : aB) (W_s : Nat → Nat → Bool) (WA : Nat → Bool) (e_s : zI) : (aX → Option aR) × Unit := cnRqz (Nat.blt e_s.1 11) (zdsp9Rqw S_s rf B_s W_s WA e_s) (zdsp19Rqw S_s rf B_s W_s WA e_s)
noncomputable def zdsp21Rqw (S_s : Nat → Option (Nat × Nat)) (rf : Nat → Nat → List Nat) (B_s : aB) (W_s : Nat → Nat → Bool) (WA : Nat → Bool) (e_s : zI) : (aX → Option aR) × Unit := cnRqz (Nat.blt e_s.1 23) (aq22Rq S_s B_s e_s.2.1, ()) (aq23Rq S_s e_s.2.1, ())
noncomputable def zdsp22Rqw (S_s : Nat → Option (Nat × Nat)) (rf : Nat → Nat → List Nat) (B_s : aB) (W_s : Nat → Nat → Bool) (WA : Nat → Bool) (e_s : zI) : (aX → Option aR) × Unit := cnRqz (Nat.blt e_s.1 26) (aq25Rq S_s B_s W_s WA e_s.2.1, ()) (aq26Rq S_s e_s.2.1, ())
noncomputable def zdsp23Rqw (S_s : Nat → Option (Nat × Nat)) (rf : Nat → Nat → List Nat) (B_s : aB) (W_s : Nat → Nat → Bool) (WA : Nat → Bool) (e_s : zI) : (aX → Option aR) × Unit := cnRqz (Nat.blt e_s.1 25) (aq24Rq S_s rf e_s.2.1, ()) (zdsp22Rqw S_s rf B_s W_s WA e_s)
noncomputable def zdsp24Rqw (S_s : Nat → Option (Nat × Nat)) (rf : Nat → Nat → List Nat) (B_s : aB) (W_s : Nat → Nat → Bool) (WA : Nat → Bool) (e_s : zI) : (aX → Option aR) × Unit := cnRqz (Nat.blt e_s.1 24) (zdsp21Rqw S_s rf B_s W_s WA e_s) (zdsp23Rqw S_s rf B_s W_s WA e_s)
noncomputable def zdsp25Rqw (S_s : Nat → Option (Nat × Nat)) (rf : Nat → Nat → List Nat) (B_s : aB) (W_s : Nat → Nat → Bool) (WA : Nat → Bool) (e_s : zI) : (aX → Option aR) × Unit := cnRqz (Nat.blt e_s.1 29) (aq28Rq S_s e_s.2.1, ()) ((fun _ => none), ())
noncomputable def zdsp26Rqw (S_s : Nat → Option (Nat × Nat)) (rf : Nat → Nat → List Nat) (B_s : aB) (W_s : Nat → Nat → Bool) (WA : Nat → Bool) (e_s : zI) : (aX → Option aR) × Unit := cnRqz (Nat.blt e_s.1 28) ((fun _ => none), ()) (zdsp25Rqw S_s rf B_s W_s WA e_s)
noncomputable def zdsp27Rqw (S_s : Nat → Option (Nat × Nat)) (rf : Nat → Nat → List Nat) (B_s : aB) (W_s : Nat → Nat → Bool) (WA : Nat → Bool) (e_s : zI) : (aX → Option aR) × Unit := cnRqz (Nat.blt e_s.1 32) (aq31Rq e_s.2.1 e_s.2.2.2.1, ()) ((fun _ => none), ())
noncomputable def zdsp28Rqw (S_s : Nat → Option (Nat × Nat)) (rf : Nat → Nat → List Nat) (B_s : aB) (W_s : Nat → Nat → Bool) (WA : Nat → Bool) (e_s : zI) : (aX → Option aR) × Unit := cnRqz (Nat.blt e_s.1 31) ((fun _ => none), ()) (zdsp27Rqw S_s rf B_s W_s WA e_s)
noncomputable def zdsp29Rqw (S_s : Nat → Option (Nat × Nat)) (rf : Nat → Nat → List Nat) (B_s : aB) (W_s : Nat → Nat → Bool) (WA : Nat → Bool) (e_s : zI) : (aX → Option aR) × Unit := cnRqz (Nat.blt e_s.1 30) (zdsp26Rqw S_s rf B_s W_s WA e_s) (zdsp28Rqw S_s rf B_s W_s WA e_s)
noncomputable def zdsp30Rqw (S_s : Nat → Option (Nat × Nat)) (rf : Nat → Nat → List Nat) (B_s : aB) (W_s : Nat → Nat → Bool) (WA : Nat → Bool) (e_s : zI) : (aX → Option aR) × Unit := cnRqz (Nat.blt e_s.1 27) (zdsp24Rqw S_s rf B_s W_s WA e_s) (zdsp29Rqw S_s rf B_s W_s WA e_s)
noncomputable def zdsp31Rqw (S_s : Nat → Option (Nat × Nat)) (rf : Nat → Nat → List Nat) (B_s : aB) (W_s : Nat → Nat → Bool) (WA : Nat → Bool) (e_s : zI) : (aX → Option aR) × Unit := cnRqz (Nat.blt e_s.1 35) (aq34Rq S_s B_s WA e_s.2.1, ()) ((fun _ => none), ())
noncomputable def zdsp32Rqw (S_s : Nat → Option (Nat × Nat)) (rf : Nat → Nat → List Nat) (B_s : aB) (W_s : Nat → Nat → Bool) (WA : Nat → Bool) (e_s : zI) : (aX → Option aR) × Unit := cnRqz (Nat.blt e_s.1 34) ((fun _ => none), ()) (zdsp31Rqw S_s rf B_s W_s WA e_s)
noncomputable def zdsp33Rqw (S_s : Nat → Option (Nat × Nat)) (rf : Nat → Nat → List Nat) (B_s : aB) (W_s : Nat → Nat → Bool) (WA : Nat → Bool) (e_s : zI) : (aX → Option aR) × Unit := cnRqz (Nat.blt e_s.1 36) (zdsp32Rqw S_s rf B_s W_s WA e_s) ((fun _ => none), ())
noncomputable def zdsp34Rqw (S_s : Nat → Option (Nat × Nat)) (rf : Nat → Nat → List Nat) (B_s : aB) (W_s : Nat → Nat → Bool) (WA : Nat → Bool) (e_s : zI) : (aX → Option aR) × Unit := cnRqz (Nat.blt e_s.1 41) (aq40Rq e_s.2.1, ()) (aq41Rq e_s.2.1, ())
noncomputable def zdsp35Rqw (S_s : Nat → Option (Nat × Nat)) (rf : Nat → Nat → List Nat) (B_s : aB) (W_s : Nat → Nat → Bool) (WA : Nat → Bool) (e_s : zI) : (aX → Option aR) × Unit := cnRqz (Nat.blt e_s.1 40) (aq39Rq e_s.2.1, ()) (zdsp34Rqw S_s rf B_s W_s WA e_s)
noncomputable def zdsp36Rqw (S_s : Nat → Option (Nat × Nat)) (rf : Nat → Nat → List Nat) (B_s : aB) (W_s : Nat → Nat → Bool) (WA : Nat → Bool) (e_s : zI) : (aX → Option aR) × Unit := cnRqz (Nat.blt e_s.1 44) (aq43 e_s.2.1 e_s.2.2.1, ()) (aq44Rq e_s.2.1, ())
noncomputable def zdsp37Rqw (S_s : Nat → Option (Nat × Nat)) (rf : Nat → Nat → List Nat) (B_s : aB) (W_s : Nat → Nat → Bool) (WA : Nat → Bool) (e_s : zI) : (aX → Option aR) × Unit := cnRqz (Nat.blt e_s.1 43) (aq42Rq e_s.2.1, ()) (zdsp36Rqw S_s rf B_s W_s WA e_s)
noncomputable def zdsp38Rqw (S_s : Nat → Option (Nat × Nat)) (rf : Nat → Nat → List Nat) (B_s : aB) (W_s : Nat → Nat → Bool) (WA : Nat → Bool) (e_s : zI) : (aX → Option aR) × Unit := cnRqz (Nat.blt e_s.1 42) (zdsp35Rqw S_s rf B_s W_s WA e_s) (zdsp37Rqw S_s rf B_s W_s WA e_s)
noncomputable def zdsp39Rqw (S_s : Nat → Option (Nat × Nat)) (rf : Nat → Nat → List Nat) (B_s : aB) (W_s : Nat → Nat → Bool) (WA : Nat → Bool) (e_s : zI) : (aX → Option aR) × Unit := cnRqz (Nat.blt e_s.1 39) (zdsp33Rqw S_s rf B_s W_s WA e_s) (zdsp38Rqw S_s rf B_s W_s WA e_s)
noncomputable def zdsp40Rqw (S_s : Nat → Option (Nat × Nat)) (rf : Nat → Nat → List Nat) (B_s : aB) (W_s : Nat → Nat → Bool) (WA : Nat → Bool) (e_s : zI) : (aX → Option aR) × Unit := cnRqz (Nat.blt e_s.1 33) (zdsp30Rqw S_s rf B_s W_s WA e_s) (zdsp39Rqw S_s rf B_s W_s WA e_s)
noncomputable def zdsp41Rqw (S_s : Nat → Option (Nat × Nat)) (rf : Nat → Nat → List Nat) (B_s : aB) (W_s : Nat → Nat → Bool) (WA : Nat → Bool) (e_s : zI) : (aX → Option aR) × Unit := cnRqz (Nat.blt e_s.1 22) (zdsp20Rqw S_s rf B_s W_s WA e_s) (zdsp40Rqw S_s rf B_s W_s WA e_s)
noncomputable def zdspRqw (S_s : Nat → Option (Nat × Nat)) (rf : Nat → Nat → List Nat) (B_s : aB) (W_s : Nat → Nat → Bool) (WA : Nat → Bool) (e_s : zI) : (aX → Option aR) × Unit := cnRqz (Nat.blt e_s.1 45) (zdsp41Rqw S_s rf B_s W_s WA e_s) ((fun _ => none), ())
theorem zdcn_e {c_s : Bool} {p_s q_s : (aX → Option aR) × Unit} {X_s : aX} : (cnRqz c_s p_s q_s).1 X_s = cnRqz c_s (p_s.1 X_s) (q_s.1 X_s) := by cases c_s <;> rfl
theorem zdspRqw_e {S_s : Nat → Option (Nat × Nat)} {rf : Nat → Nat → List Nat} {B_s : aB} {W_s : Nat → Nat → Bool} {WA : Nat → Bool} {e_s : zI} {X_s : aX} : (zdspRqw S_s rf B_s W_s WA e_s).1 X_s = astepFRq S_s rf B_s W_s WA e_s X_s := by
  rcases e_s with ⟨op_s, len_s, a_s, b_s, c_s, v_s, sw_s⟩
  delta zdsp0Rqw zdsp1Rqw zdsp2Rqw zdsp3Rqw zdsp4Rqw zdsp5Rqw zdsp6Rqw zdsp7Rqw zdsp8Rqw zdsp9Rqw zdsp10Rqw zdsp11Rqw zdsp12Rqw zdsp13Rqw zdsp14Rqw zdsp15Rqw zdsp16Rqw zdsp17Rqw zdsp18Rqw zdsp19Rqw zdsp20Rqw zdsp21Rqw zdsp22Rqw zdsp23Rqw zdsp24Rqw zdsp25Rqw zdsp26Rqw zdsp27Rqw zdsp28Rqw zdsp29Rqw zdsp30Rqw zdsp31Rqw zdsp32Rqw zdsp33Rqw zdsp34Rqw zdsp35Rqw zdsp36Rqw zdsp37Rqw zdsp38Rqw zdsp39Rqw zdsp40Rqw zdsp41Rqw zdspRqw
  simp only [zdcn_e]
  rfl
noncomputable def acore2dRqw (S_s : Nat → Option (Nat × Nat)) (rf : Nat → Nat → List Nat) (B_s : aB) (Wl_s : aW) (d_s : Nat) (X_s : aX) (G_s : aG) (mi : Nat) (gs : List aFm) (e_s : zI) : Option (List (Nat × aY) ⊕ (aX × Option aV)) := cnRqz (alwRq Wl_s e_s) (Option.rec (motive := fun _ => Option (List (Nat × aY) ⊕ (aX × Option aV))) none (fun r_s => Sum.rec (motive := fun _ => Option (List (Nat × aY) ⊕ (aX × Option aV))) (fun Ys => some (.inl (acore2eRqw d_s X_s G_s mi gs e_s (apRqz (adf1Rqw e_s X_s) G_s.2.1) (apRqz (adq1Rqw e_s X_s) G_s.2.2.1) Ys))) (fun _ => none) r_s) ((zdspRqw S_s rf B_s (aWfRq (awnRq Wl_s)) (aWARq (awnRq Wl_s)) e_s).1 X_s)) none
theorem acore2dRqw_e {S_s : Nat → Option (Nat × Nat)} {rf : Nat → Nat → List Nat} {B_s : aB} {Wl_s : aW} {d_s : Nat} {X_s : aX} {G_s : aG} {mi : Nat} {gs : List aFm} {e_s : zI} : acore2dRqw S_s rf B_s Wl_s d_s X_s G_s mi gs e_s = cnRqz (alwRq Wl_s e_s) ((match astepFRq S_s rf B_s (aWfRq (awnRq Wl_s)) (aWARq (awnRq Wl_s)) e_s X_s with
          | some (.inl Ys) => some (.inl ((aprsRq (adf1Rq e_s X_s ++ G_s.2.1) (adq1Rq e_s X_s ++ G_s.2.2.1) Ys).map (fun Z_s => (d_s, (Z_s, (cnRqz (gs.isEmpty) (adb1Rq Z_s.2.2.1 e_s X_s ++ G_s.1) (G_s.1), adf1Rq e_s X_s ++ G_s.2.1, adq1Rq e_s X_s ++ G_s.2.2.1, ahkRq G_s.2.2.2 e_s), mi, gs)))))
          | _ => none)) (none) := by
  delta acore2dRqw acore2eRqw
  rw [adf1Rqw_e, adq1Rqw_e, adb1Rqw_e, ahkRqw_e, mpRqz_e, apRqz_e]
  simp only [zdspRqw_e]
  rcases astepFRq S_s rf B_s (aWfRq (awnRq Wl_s)) (aWARq (awnRq Wl_s)) e_s X_s with _ | (Y_s | r_s) <;> rfl
noncomputable def acore2cRqw (S_s : Nat → Option (Nat × Nat)) (rf : Nat → Nat → List Nat) (B_s : aB) (es : List aE) (Wl_s : aW) (d_s : Nat) (X_s : aX) (G_s : aG) (mi : Nat) (gs : List aFm) (e_s : zI) : Option (List (Nat × aY) ⊕ (aX × Option aV)) := Option.rec (motive := fun _ => Option (List (Nat × aY) ⊕ (aX × Option aV))) (acore2dRqw S_s rf B_s Wl_s d_s X_s G_s mi gs e_s) (fun p_s => some (.inl [(d_s, (p_s.1, (G_s.1, G_s.2.1, G_s.2.2.1, p_s.2), mi, gs))])) (aspecRqw S_s e_s G_s X_s)
theorem acore2cRqw_e {S_s : Nat → Option (Nat × Nat)} {rf : Nat → Nat → List Nat} {B_s : aB} {es : List aE} {Wl_s : aW} {d_s : Nat} {X_s : aX} {G_s : aG} {mi : Nat} {gs : List aFm} {e_s : zI} : acore2cRqw S_s rf B_s es Wl_s d_s X_s G_s mi gs e_s = (match aspecRq S_s e_s G_s X_s with
        | some p_s => some (.inl [(d_s, (p_s.1, (G_s.1, G_s.2.1, G_s.2.2.1, p_s.2), mi, gs))])
        | none => cnRqz (alwRq Wl_s e_s) ((match astepFRq S_s rf B_s (aWfRq (awnRq Wl_s)) (aWARq (awnRq Wl_s)) e_s X_s with
          | some (.inl Ys) => some (.inl ((aprsRq (adf1Rq e_s X_s ++ G_s.2.1) (adq1Rq e_s X_s ++ G_s.2.2.1) Ys).map (fun Z_s => (d_s, (Z_s, (cnRqz (gs.isEmpty) (adb1Rq Z_s.2.2.1 e_s X_s ++ G_s.1) (G_s.1), adf1Rq e_s X_s ++ G_s.2.1, adq1Rq e_s X_s ++ G_s.2.2.1, ahkRq G_s.2.2.2 e_s), mi, gs)))))
          | _ => none)) (none)) := by
  delta acore2cRqw
  rw [aspecRqw_e]
  cases aspecRq S_s e_s G_s X_s with
  | some p_s => rfl
  | none => exact acore2dRqw_e
noncomputable def acore2kRqw (es : List aE) (Wl_s : aW) (d' : Nat) (G_s : aG) (mi : Nat) (gs : List aFm) (m_s : Nat) (xs : List aV) (Z_s : aX) : Option (List (Nat × aY) ⊕ (aX × Option aV)) := cnRqz (aanyRq m_s es) (Option.rec (motive := fun _ => Option (List (Nat × aY) ⊕ (aX × Option aV))) none (fun p_s => some (.inl [(d' + 1, (p_s.1, (p_s.2.1, G_s.2.1, G_s.2.2.1, p_s.2.2), mi, gs))])) (acallRq m_s Wl_s d' Z_s (aentRq Z_s m_s xs) G_s.1 G_s.2.2.2 es)) (cnRqz (Nat.beq (lnRqz (apadRq (zL m_s) (aargsRq xs))) (zL m_s)) (some (.inl [(d', (aentRq Z_s m_s xs, G_s, m_s, (mi, Z_s.2.2.1, Z_s.2.2.2.1, Z_s.2.2.2.2) :: gs))])) none)
noncomputable def acore2bRqw (S_s : Nat → Option (Nat × Nat)) (rf : Nat → Nat → List Nat) (B_s : aB) (es : List aE) (Wl_s : aW) (d_s : Nat) (X_s : aX) (G_s : aG) (mi : Nat) (gs : List aFm) (e_s : zI) : Option (List (Nat × aY) ⊕ (aX × Option aV)) := Option.rec (motive := fun _ => Option (List (Nat × aY) ⊕ (aX × Option aV))) (acore2cRqw S_s rf B_s es Wl_s d_s X_s G_s mi gs e_s) (fun r_s => Sum.rec (motive := fun _ => Option (List (Nat × aY) ⊕ (aX × Option aV))) (fun _ => acore2cRqw S_s rf B_s es Wl_s d_s X_s G_s mi gs e_s) (fun r2 => Sum.rec (motive := fun _ => Option (List (Nat × aY) ⊕ (aX × Option aV))) (fun q_s => Nat.rec (motive := fun _ => Option (List (Nat × aY) ⊕ (aX × Option aV))) none (fun d' _ => acore2kRqw es Wl_s d' G_s mi gs q_s.1 q_s.2.1 q_s.2.2) d_s) (fun _ => acore2cRqw S_s rf B_s es Wl_s d_s X_s G_s mi gs e_s) r2) r_s) (astepCRq S_s e_s X_s)
theorem acore2bRqw_e {S_s : Nat → Option (Nat × Nat)} {rf : Nat → Nat → List Nat} {B_s : aB} {es : List aE} {Wl_s : aW} {d_s : Nat} {X_s : aX} {G_s : aG} {mi : Nat} {gs : List aFm} {e_s : zI} : acore2bRqw S_s rf B_s es Wl_s d_s X_s G_s mi gs e_s = (match astepCRq S_s e_s X_s with
      | some (.inr (.inl (m_s, xs, Z_s))) => (match d_s with
        | 0 => none
        | d' + 1 => cnRqz (aanyRq m_s es) ((match acallRq m_s Wl_s d' Z_s (aentRq Z_s m_s xs) G_s.1 G_s.2.2.2 es with
          | some p_s => some (.inl [(d' + 1, (p_s.1, (p_s.2.1, G_s.2.1, G_s.2.2.1, p_s.2.2), mi, gs))])
          | none => none)) (cnRqz (Nat.beq (apadRq (zL m_s) (aargsRq xs)).length (zL m_s)) (some (.inl [(d', (aentRq Z_s m_s xs, G_s, m_s, (mi, Z_s.2.2.1, Z_s.2.2.2.1, Z_s.2.2.2.2) :: gs))])) (none)))
      | _ => (match aspecRq S_s e_s G_s X_s with
        | some p_s => some (.inl [(d_s, (p_s.1, (G_s.1, G_s.2.1, G_s.2.2.1, p_s.2), mi, gs))])
        | none => cnRqz (alwRq Wl_s e_s) ((match astepFRq S_s rf B_s (aWfRq (awnRq Wl_s)) (aWARq (awnRq Wl_s)) e_s X_s with
          | some (.inl Ys) => some (.inl ((aprsRq (adf1Rq e_s X_s ++ G_s.2.1) (adq1Rq e_s X_s ++ G_s.2.2.1) Ys).map (fun Z_s => (d_s, (Z_s, (cnRqz (gs.isEmpty) (adb1Rq Z_s.2.2.1 e_s X_s ++ G_s.1) (G_s.1), adf1Rq e_s X_s ++ G_s.2.1, adq1Rq e_s X_s ++ G_s.2.2.1, ahkRq G_s.2.2.2 e_s), mi, gs)))))
          | _ => none)) (none))) := by
  delta acore2bRqw acore2kRqw
  rw [lnRqz_e]
  rcases astepCRq S_s e_s X_s with _ | (Y_s | (⟨m_s, xs_s, Z_s⟩ | r_s))
  · exact acore2cRqw_e
  · exact acore2cRqw_e
  · cases d_s with
    | zero => rfl
    | succ d_s =>
      show cnRqz (aanyRq m_s es) (Option.rec (motive := fun _ => Option (List (Nat × aY) ⊕ (aX × Option aV))) none (fun p_s => some (.inl [(d_s + 1, (p_s.1, (p_s.2.1, G_s.2.1, G_s.2.2.1, p_s.2.2), mi, gs))])) (acallRq m_s Wl_s d_s Z_s (aentRq Z_s m_s xs_s) G_s.1 G_s.2.2.2 es)) (cnRqz (Nat.beq (apadRq (zL m_s) (aargsRq xs_s)).length (zL m_s)) (some (.inl [(d_s, (aentRq Z_s m_s xs_s, G_s, m_s, (mi, Z_s.2.2.1, Z_s.2.2.2.1, Z_s.2.2.2.2) :: gs))])) (none)) = cnRqz (aanyRq m_s es) ((match acallRq m_s Wl_s d_s Z_s (aentRq Z_s m_s xs_s) G_s.1 G_s.2.2.2 es with
          | some p_s => some (.inl [(d_s + 1, (p_s.1, (p_s.2.1, G_s.2.1, G_s.2.2.1, p_s.2.2), mi, gs))])
          | none => none)) (cnRqz (Nat.beq (apadRq (zL m_s) (aargsRq xs_s)).length (zL m_s)) (some (.inl [(d_s, (aentRq Z_s m_s xs_s, G_s, m_s, (mi, Z_s.2.2.1, Z_s.2.2.2.1, Z_s.2.2.2.2) :: gs))])) (none))
      cases acallRq m_s Wl_s d_s Z_s (aentRq Z_s m_s xs_s) G_s.1 G_s.2.2.2 es <;> rfl
  · exact acore2cRqw_e
noncomputable def acore2rRqw (d_s : Nat) (X_s : aX) (G_s : aG) (gs : List aFm) (w_s : Option aV) : Option (List (Nat × aY) ⊕ (aX × Option aV)) := List.rec (motive := fun _ => Option (List (Nat × aY) ⊕ (aX × Option aV))) (some (.inr (X_s, w_s))) (fun g_s gs' _ => some (.inl [(d_s + 1, ((X_s.1, X_s.2.1, g_s.2.1, g_s.2.2.1, w_s.toList ++ g_s.2.2.2), G_s, g_s.1, gs'))])) gs
noncomputable def acore2aRqw (S_s : Nat → Option (Nat × Nat)) (rf : Nat → Nat → List Nat) (B_s : aB) (es : List aE) (Wl_s : aW) (d_s : Nat) (X_s : aX) (G_s : aG) (mi : Nat) (gs : List aFm) (e_s : zI) : Option (List (Nat × aY) ⊕ (aX × Option aV)) := Option.rec (motive := fun _ => Option (List (Nat × aY) ⊕ (aX × Option aV))) (acore2bRqw S_s rf B_s es Wl_s d_s X_s G_s mi gs e_s) (fun r_s => Sum.rec (motive := fun _ => Option (List (Nat × aY) ⊕ (aX × Option aV))) (fun _ => acore2bRqw S_s rf B_s es Wl_s d_s X_s G_s mi gs e_s) (fun r2 => Sum.rec (motive := fun _ => Option (List (Nat × aY) ⊕ (aX × Option aV))) (fun _ => acore2bRqw S_s rf B_s es Wl_s d_s X_s G_s mi gs e_s) (fun w_s => acore2rRqw d_s X_s G_s gs w_s) r2) r_s) (astepRRq e_s X_s)
theorem acore2aRqw_e {S_s : Nat → Option (Nat × Nat)} {rf : Nat → Nat → List Nat} {B_s : aB} {es : List aE} {Wl_s : aW} {d_s : Nat} {X_s : aX} {G_s : aG} {mi : Nat} {gs : List aFm} {e_s : zI} : acore2aRqw S_s rf B_s es Wl_s d_s X_s G_s mi gs e_s = acore2Rq S_s rf B_s es Wl_s d_s X_s G_s mi gs e_s := by
  delta acore2aRqw acore2Rq
  rcases astepRRq e_s X_s with _ | (Y_s | (q_s | w_s))
  · exact acore2bRqw_e
  · exact acore2bRqw_e
  · exact acore2bRqw_e
  · cases gs <;> rfl
noncomputable def acore2Rqw (S_s : Nat → Option (Nat × Nat)) (rf : Nat → Nat → List Nat) (B_s : aB) (es : List aE) (Wl_s : aW) (d_s : Nat) (X_s : aX) (G_s : aG) (mi : Nat) (gs : List aFm) (e_s : zI) : Option (List (Nat × aY) ⊕ (aX × Option aV)) := cnRqz (Nat.blt e_s.1 32) (acore2cRqw S_s rf B_s es Wl_s d_s X_s G_s mi gs e_s) (acore2aRqw S_s rf B_s es Wl_s d_s X_s G_s mi gs e_s)
theorem acore2Rqw_e : @acore2Rqw = @acore2Rq := by
  funext S_s rf_s B_s es_s Wl_s d_s X_s G_s mi_s gs_s e_s
  rcases e_s with ⟨op_s, len_s, a_s, b_s, c_s, v_s, sw_s⟩
  show cnRqz (Nat.blt op_s 32) (acore2cRqw S_s rf_s B_s es_s Wl_s d_s X_s G_s mi_s gs_s (op_s, len_s, a_s, b_s, c_s, v_s, sw_s)) (acore2aRqw S_s rf_s B_s es_s Wl_s d_s X_s G_s mi_s gs_s (op_s, len_s, a_s, b_s, c_s, v_s, sw_s)) = _
  cases ho_s : Nat.blt op_s 32 with
  | false => exact acore2aRqw_e
  | true =>
    have hl_s : op_s < 32 := Nat.le_of_ble_eq_true ho_s
    have h1_s : astepRRq (op_s, len_s, a_s, b_s, c_s, v_s, sw_s) X_s = none := by
      show cnRqz (Nat.blt op_s 35) none _ = none
      have hq_s : Nat.blt op_s 35 = true := Nat.ble_eq_true_of_le (by omega)
      rw [hq_s]
      rfl
    have h2_s : astepCRq S_s (op_s, len_s, a_s, b_s, c_s, v_s, sw_s) X_s = none := by
      show cnRqz (Nat.beq op_s 32) _ none = none
      have hq_s : Nat.beq op_s 32 = false := by
        cases hc_s : Nat.beq op_s 32 with
        | false => rfl
        | true =>
          have := Nat.eq_of_beq_eq_true hc_s
          omega
      rw [hq_s]
      rfl
    delta acore2Rq
    rw [h1_s, h2_s]
    exact acore2cRqw_e (es := es_s)
noncomputable def acorePRqw (S_s : Nat → Option (Nat × Nat)) (rf : Nat → Nat → List Nat) (B_s : aB) (Wl_s : aW) (d_s : Nat) (X_s : aX) (G_s : aG) (mi : Nat) (gs : List aFm) (e_s : zI) : Option (List (Nat × aY) ⊕ (aX × Option aV)) := Option.rec (motive := fun _ => Option (List (Nat × aY) ⊕ (aX × Option aV))) none (fun r_s => Sum.rec (motive := fun _ => Option (List (Nat × aY) ⊕ (aX × Option aV))) (fun Ys => some (.inl (mpRqz (fun Z_s => (d_s, (Z_s, G_s, mi, gs))) Ys))) (fun _ => none) r_s) ((zdspRqw S_s rf B_s (aWfRq (awnRq Wl_s)) (aWARq (awnRq Wl_s)) e_s).1 X_s)
theorem acorePRqw_e : @acorePRqw = @acorePRq := by
  funext S_s rf_s B_s Wl_s d_s X_s G_s mi_s gs_s e_s
  delta acorePRqw acorePRq
  show Option.rec (motive := fun _ => Option (List (Nat × aY) ⊕ (aX × Option aV))) none (fun r_s => Sum.rec (motive := fun _ => Option (List (Nat × aY) ⊕ (aX × Option aV))) (fun Ys => some (.inl (mpRqz (fun Z_s => (d_s, (Z_s, G_s, mi_s, gs_s))) Ys))) (fun _ => none) r_s) ((zdspRqw S_s rf_s B_s (aWfRq (awnRq Wl_s)) (aWARq (awnRq Wl_s)) e_s).1 X_s) = (match astepFRq S_s rf_s B_s (aWfRq (awnRq Wl_s)) (aWARq (awnRq Wl_s)) e_s X_s with
    | some (.inl Ys) => some (.inl (Ys.map (fun Z_s => (d_s, (Z_s, G_s, mi_s, gs_s)))))
    | _ => none)
  rw [zdspRqw_e, mpRqz_e]
  rcases astepFRq S_s rf_s B_s (aWfRq (awnRq Wl_s)) (aWARq (awnRq Wl_s)) e_s X_s with _ | (Y_s | r_s) <;> rfl
noncomputable def alcxRqw (X_s : aX) (mi : Nat) (e_s : zI) : Option (List aX) := cnRqz (Nat.beq e_s.1 14) (Option.rec (motive := fun _ => Option (List aX)) none (fun e2_s => alcbRq X_s e_s.2.1 e2_s) (zif3 mi (X_s.2.2.1 + e_s.2.1))) none
theorem alcxRqw_e : @alcxRqw = @alcxRq := by
  funext X_s mi_s e_s
  rcases e_s with ⟨op_s, len_s, a_s, b_s, c_s, v_s, sw_s⟩
  show cnRqz (Nat.beq op_s 14) (Option.rec (motive := fun _ => Option (List aX)) none (fun e2_s => alcbRq X_s len_s e2_s) (zif3 mi_s (X_s.2.2.1 + len_s))) none = cnRqz (Nat.beq op_s 14) ((match zif3 mi_s (X_s.2.2.1 + len_s) with
    | some e2_s => alcbRq X_s len_s e2_s
    | none => none)) none
  cases zif3 mi_s (X_s.2.2.1 + len_s) <;> rfl
noncomputable def acore1Rqw (S_s : Nat → Option (Nat × Nat)) (rf : Nat → Nat → List Nat) (B_s : aB) (es : List aE) (Wl_s : aW) (d_s : Nat) (X_s : aX) (G_s : aG) (mi : Nat) (gs : List aFm) (e_s : zI) : Option (List (Nat × aY) ⊕ (aX × Option aV)) := cnRqz (apl e_s) (acorePRqw S_s rf B_s Wl_s d_s X_s G_s mi gs e_s) (Option.rec (motive := fun _ => Option (List (Nat × aY) ⊕ (aX × Option aV))) (acore2Rqw S_s rf B_s es Wl_s d_s X_s G_s mi gs e_s) (fun Ys => some (.inl (mpRqz (fun Z_s => (d_s, (Z_s, G_s, mi, gs))) (aprsRq G_s.2.1 G_s.2.2.1 Ys)))) (alcxRqw X_s mi e_s))
theorem acore1Rqw_e : @acore1Rqw = @acore1Rq := by
  funext S_s rf_s B_s es_s Wl_s d_s X_s G_s mi_s gs_s e_s
  delta acore1Rqw acore1Rq
  rw [acorePRqw_e, acore2Rqw_e, alcxRqw_e, mpRqz_e]
  cases alcxRq X_s mi_s e_s <;> rfl
noncomputable def anrRqw (e_s : zI) (X_s : aX) : aX := cnRqz (cnRqz (Nat.beq e_s.1 7) true (cnRqz (Nat.beq e_s.1 8) true (cnRqz (Nat.beq e_s.1 22) true (Nat.beq e_s.1 25)))) (anrmRqw X_s) X_s
theorem anrRqw_e : @anrRqw = @anrRq := by
  funext e_s X_s
  rcases e_s with ⟨op_s, len_s, a_s, b_s, c_s, v_s, sw_s⟩
  show cnRqz (cnRqz (Nat.beq op_s 7) true (cnRqz (Nat.beq op_s 8) true (cnRqz (Nat.beq op_s 22) true (Nat.beq op_s 25)))) (anrmRqw X_s) X_s = cnRqz (Nat.beq op_s 7 || (Nat.beq op_s 8 || (Nat.beq op_s 22 || Nat.beq op_s 25))) (anrmRq X_s) X_s
  rw [anrmRqw_e]
  cases Nat.beq op_s 7 <;> cases Nat.beq op_s 8 <;> cases Nat.beq op_s 22 <;> rfl
noncomputable def acoreRqw (S_s : Nat → Option (Nat × Nat)) (rf : Nat → Nat → List Nat) (B_s : aB) (es : List aE) (Wl_s : aW) (d_s : Nat) (X_s : aX) (G_s : aG) (mi : Nat) (gs : List aFm) (oe : Option zI) : Option (List (Nat × aY) ⊕ (aX × Option aV)) := Option.rec (motive := fun _ => Option (List (Nat × aY) ⊕ (aX × Option aV))) none (fun e_s => acore1Rqw S_s rf B_s es Wl_s d_s (anrRqw e_s X_s) G_s mi gs e_s) oe
theorem acoreRqw_e {S_s : Nat → Option (Nat × Nat)} {rf : Nat → Nat → List Nat} {B_s : aB} {es : List aE} {Wl_s : aW} {d_s : Nat} {X_s : aX} {G_s : aG} {mi : Nat} {gs : List aFm} : acoreRqw S_s rf B_s es Wl_s d_s X_s G_s mi gs (zif3N mi X_s.2.2.1) = acoreRq S_s rf B_s es Wl_s d_s X_s G_s mi gs := by
  delta acoreRqw acoreRq
  rw [acore1Rqw_e, anrRqw_e, zif3N_e]
  cases zif3 mi X_s.2.2.1 <;> rfl
noncomputable def arunYRqw (S_s : Nat → Option (Nat × Nat)) (rf : Nat → Nat → List Nat) (B_s : aB) (es : List aE) (Wl_s : aW) (sp_s : Nat → Nat → Option (Nat × Int × Int × Nat)) (mi0 : Nat) (cutp : Nat → Bool) (leafC : Nat → aX → aG → Bool) (leafR : aX → Option aV → aG → Bool) (f_s : Nat) : Nat → Bool → aY → Bool := Nat.rec (motive := fun _ => Nat → Bool → aY → Bool) (fun _ _ _ => false) (fun _ ih_s d_s b_s Y => fcRqz Y.2.2.1 (fun mi => fcRqz Y.1.2.2.1 (fun pc => cnRqz (cnRqz b_s false (List.rec (motive := fun _ => Bool) (cnRqz (Nat.beq mi mi0) (cutp pc) false) (fun _ _ _ => false) Y.2.2.2)) (leafC d_s Y.1 Y.2.1) (Option.rec (motive := fun _ => Bool) (Option.rec (motive := fun _ => Bool) false (fun r_s => Sum.rec (motive := fun _ => Bool) (fun Ys => alRqz Ys (fun p_s => ih_s p_s.1 false p_s.2)) (fun p_s => leafR p_s.1 p_s.2 Y.2.1) r_s) (acoreRqw S_s rf B_s es Wl_s d_s (Y.1.1, Y.1.2.1, pc, Y.1.2.2.2) Y.2.1 mi Y.2.2.2 (zif3N mi pc))) (fun i_s => alRqz (asplRq Y.1 i_s) (fun Z_s => Option.rec (motive := fun _ => Bool) false (fun r_s => Sum.rec (motive := fun _ => Bool) (fun Ys => alRqz Ys (fun p_s => ih_s p_s.1 false p_s.2)) (fun p_s => leafR p_s.1 p_s.2 Y.2.1) r_s) (acoreRqw S_s rf B_s es Wl_s d_s Z_s Y.2.1 mi Y.2.2.2 (zif3N mi Z_s.2.2.1)))) (sp_s mi pc))))) f_s
theorem arlfRqw_e {o : Option (List (Nat × aY) ⊕ (aX × Option aV))} {kc_s : Nat × aY → Bool} {kr : aX × Option aV → Bool} : Option.rec (motive := fun _ => Bool) false (fun r_s => Sum.rec (motive := fun _ => Bool) (fun Ys => alRqz Ys kc_s) kr r_s) o = (match o with
      | some (.inl Ys) => alRqz Ys kc_s
      | some (.inr p_s) => kr p_s
      | none => false) := by
  rcases o with _ | (Y_s | p_s) <;> rfl
theorem arunYRqw_e : @arunYRqw = @arunYRq := by
  funext S_s rf_s B_s es_s Wl_s sp_s mi_s cutp_s lc_s lr_s f_s
  induction f_s with
  | zero => rfl
  | succ f_s ih_s =>
    funext d_s b_s Y_s
    rcases Y_s with ⟨⟨cs_s, T_s, pc_s, al_s, st_s⟩, G_s, mq_s, gs_s⟩
    show fcRqz mq_s (fun mi => fcRqz pc_s (fun pc => cnRqz (cnRqz b_s false (List.rec (motive := fun _ => Bool) (cnRqz (Nat.beq mi mi_s) (cutp_s pc) false) (fun _ _ _ => false) gs_s)) (lc_s d_s (cs_s, T_s, pc_s, al_s, st_s) G_s) (Option.rec (motive := fun _ => Bool) (Option.rec (motive := fun _ => Bool) false (fun r_s => Sum.rec (motive := fun _ => Bool) (fun Ys => alRqz Ys (fun p_s => arunYRqw S_s rf_s B_s es_s Wl_s sp_s mi_s cutp_s lc_s lr_s f_s p_s.1 false p_s.2)) (fun p_s => lr_s p_s.1 p_s.2 G_s) r_s) (acoreRqw S_s rf_s B_s es_s Wl_s d_s (cs_s, T_s, pc, al_s, st_s) G_s mi gs_s (zif3N mi pc))) (fun i_s => alRqz (asplRq (cs_s, T_s, pc_s, al_s, st_s) i_s) (fun Z_s => Option.rec (motive := fun _ => Bool) false (fun r_s => Sum.rec (motive := fun _ => Bool) (fun Ys => alRqz Ys (fun p_s => arunYRqw S_s rf_s B_s es_s Wl_s sp_s mi_s cutp_s lc_s lr_s f_s p_s.1 false p_s.2)) (fun p_s => lr_s p_s.1 p_s.2 G_s) r_s) (acoreRqw S_s rf_s B_s es_s Wl_s d_s Z_s G_s mi gs_s (zif3N mi Z_s.2.2.1)))) (sp_s mi pc)))) = (bif !b_s && (gs_s.isEmpty && (Nat.beq mq_s mi_s && cutp_s pc_s)) then lc_s d_s (cs_s, T_s, pc_s, al_s, st_s) G_s else alRqz (match sp_s mq_s pc_s with
      | some i_s => asplRq (cs_s, T_s, pc_s, al_s, st_s) i_s
      | none => [(cs_s, T_s, pc_s, al_s, st_s)]) (fun Z_s => match acoreRq S_s rf_s B_s es_s Wl_s d_s Z_s G_s mq_s gs_s with
        | some (.inl Ys) => alRqz Ys (fun p_s => arunYRq S_s rf_s B_s es_s Wl_s sp_s mi_s cutp_s lc_s lr_s f_s p_s.1 false p_s.2)
        | some (.inr p_s) => lr_s p_s.1 p_s.2 G_s
        | none => false))
    have hk_s : ∀ Z_s : aX, Option.rec (motive := fun _ => Bool) false (fun r_s => Sum.rec (motive := fun _ => Bool) (fun Ys => alRqz Ys (fun p_s => arunYRqw S_s rf_s B_s es_s Wl_s sp_s mi_s cutp_s lc_s lr_s f_s p_s.1 false p_s.2)) (fun p_s => lr_s p_s.1 p_s.2 G_s) r_s) (acoreRqw S_s rf_s B_s es_s Wl_s d_s Z_s G_s mq_s gs_s (zif3N mq_s Z_s.2.2.1)) = (match acoreRq S_s rf_s B_s es_s Wl_s d_s Z_s G_s mq_s gs_s with
        | some (.inl Ys) => alRqz Ys (fun p_s => arunYRq S_s rf_s B_s es_s Wl_s sp_s mi_s cutp_s lc_s lr_s f_s p_s.1 false p_s.2)
        | some (.inr p_s) => lr_s p_s.1 p_s.2 G_s
        | none => false) := by
      intro Z_s
      rw [acoreRqw_e, ih_s]
      rcases acoreRq S_s rf_s B_s es_s Wl_s d_s Z_s G_s mq_s gs_s with _ | (Y_s | p_s) <;> rfl
    have hc_s : cnRqz b_s false (List.rec (motive := fun _ => Bool) (cnRqz (Nat.beq mq_s mi_s) (cutp_s pc_s) false) (fun _ _ _ => false) gs_s) = (!b_s && (gs_s.isEmpty && (Nat.beq mq_s mi_s && cutp_s pc_s))) := by
      cases b_s with
      | true => rfl
      | false => cases gs_s with
        | nil => show cnRqz (Nat.beq mq_s mi_s) (cutp_s pc_s) false = (Nat.beq mq_s mi_s && cutp_s pc_s); cases Nat.beq mq_s mi_s <;> rfl
        | cons g_s r_s => rfl
    rw [fcRqz_e, fcRqz_e, hc_s]
    cases (!b_s && (gs_s.isEmpty && (Nat.beq mq_s mi_s && cutp_s pc_s))) with
    | true => rfl
    | false =>
      cases sp_s mq_s pc_s with
      | none => exact hk_s (cs_s, T_s, pc_s, al_s, st_s)
      | some i_s => exact congrArg (alRqz (asplRq (cs_s, T_s, pc_s, al_s, st_s) i_s)) (funext hk_s)
noncomputable def asegRqw (S_s : Nat → Option (Nat × Nat)) (rf : Nat → Nat → List Nat) (B_s : aB) (es : List aE) (sp_s : Nat → Nat → Option (Nat × Int × Int × Nat)) (e_s : aE) (cuts_s : List aC) (f_s : Nat) (c_s : Option aC) : Bool := match c_s with
  | none => arunYRqw S_s rf B_s es e_s.2.2.2.2.2 sp_s e_s.1 (acutpRq cuts_s) (alfCRq cuts_s (lnRqz e_s.2.2.1.1) e_s.2.1 none) (alfRRq e_s (lnRqz e_s.2.2.1.1)) f_s e_s.2.1 true (e_s.2.2.1, (e_s.2.2.2.1.1, [], [], ([], [], (e_s.2.2.2.1.2, []))), e_s.1, [])
  | some c_s => arunYRqw S_s rf B_s es e_s.2.2.2.2.2 sp_s e_s.1 (acutpRq cuts_s) (alfCRq cuts_s (lnRqz e_s.2.2.1.1) e_s.2.1 (some c_s.2.2)) (alfRRq e_s (lnRqz e_s.2.2.1.1)) f_s e_s.2.1 true (c_s.1, (c_s.2.1.1, [], [], ([], c_s.2.1.2, (e_s.2.2.2.1.2, []))), e_s.1, []) && (ale0Rq c_s.1.1 c_s.2.1.1 (alng c_s.2.2.2 (-c_s.2.2.1, [])) && alRqz c_s.2.2.2 (fun p_s => Nat.blt p_s.2 (lnRqz c_s.1.1)))
theorem asegRqw_e : @asegRqw = @asegRq := by
  delta asegRqw asegRq
  rw [arunYRqw_e]
  first | done | rfl
theorem asgqw {S_s : Nat → Option (Nat × Nat)} {rf : Nat → Nat → List Nat} {B_s : aB} {es : List aE} {sp_s : Nat → Nat → Option (Nat × Int × Int × Nat)} {e_s : aE} {cuts_s : List aC} {f_s : Nat} {c_s : Option aC} (h_s : asegRqw S_s rf B_s es sp_s e_s cuts_s f_s c_s = true) : aseg S_s rf B_s es sp_s e_s cuts_s f_s c_s = true := by
  rw [← asegRq_e, ← asegRqw_e]
  exact h_s
