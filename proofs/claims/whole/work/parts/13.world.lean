def MW (h : PH) : Prop := 154 ≤ hN h ∧ gR h pMo 5 = some pMo_tape ∧ gR h pMo 6 = some pMo_text ∧ gR h pMo 9 = some pMo_words ∧ gR h pMo 10 = some pMo_wordSize ∧ gR h pMo 11 = some pMo_subs ∧ gR h pMo 12 = some pMo_subSize ∧ gR h pMo 13 = some pMo_asked ∧ gR h pMo 17 = some pMo_pile ∧ gR h pMo 18 = some pMo_pileSize ∧ gR h pMo 20 = some pMo_opened ∧ gR h pMo 21 = some pMo_openedAt ∧ gR h pMo 22 = some pMo_begun ∧ gR h pMo 23 = some pMo_cells ∧ gR h pMo 24 = some pMo_keptCells ∧ gR h pMo 25 = some pMo_name ∧ gR h pMo 26 = some pMo_isLeft ∧ gR h pMo 27 = some pMo_isDone ∧ gR h pMo 28 = some pMo_keptLeft ∧ gR h pMo 29 = some pMo_keptDone ∧ gR h pMo 30 = some pMo_state ∧ gR h pMo 31 = some pMo_keptState ∧ gR h pMo 40 = some pMo_newOf ∧ gR h pMo 41 = some pMo_oldOf ∧ gR h pMo 43 = some pMo_spare ∧ gR h pMo 44 = some pMo_spareDone ∧ gR h pMo 45 = some pMo_out ∧ gR h pMo 47 = some pMo_metFrom ∧ gR h pMo 48 = some pMo_metBy ∧ gR h pMo 49 = some pMo_far ∧ gR h pMo 50 = some pMo_low ∧ gR h pMo 51 = some pMo_lows ∧ gR h pMo 52 = some pMo_lowSize ∧ gR h pMo 61 = some pMo_triedRow ∧ gR h pMo 62 = some pMo_triedColumn ∧ gR h pMo 63 = some pMo_triedValue ∧ gR h pMo 64 = some pMo_triedRows ∧ gR h pMo 65 = some pMo_sheet
theorem MW_sI {h : PH} {a : Nat} {k v : Int} : MW (sI h a k v) ↔ MW h := Iff.rfl
theorem MW_sA {h : PH} {a : Nat} {f : Int → Int} : MW (sA h a f) ↔ MW h := Iff.rfl
theorem mr_tape {h : PH} (w : MW h) : gR h pMo 5 = some pMo_tape := w.2.1
theorem ma_tape {h : PH} (w : MW h) : isAr h pMo_tape 1 := ⟨Nat.lt_of_lt_of_le (by decide) w.1, 400, rfl⟩
theorem ml_tape : lnA pMo_tape = 400 := rfl
theorem mr_text {h : PH} (w : MW h) : gR h pMo 6 = some pMo_text := w.2.2.1
theorem ma_text {h : PH} (w : MW h) : isAr h pMo_text 1 := ⟨Nat.lt_of_lt_of_le (by decide) w.1, 400, rfl⟩
theorem ml_text : lnA pMo_text = 400 := rfl
theorem mr_words {h : PH} (w : MW h) : gR h pMo 9 = some pMo_words := w.2.2.2.1
theorem ma_words {h : PH} (w : MW h) : isAr h pMo_words 0 := ⟨Nat.lt_of_lt_of_le (by decide) w.1, 480, rfl⟩
theorem ml_words : lnA pMo_words = 480 := rfl
theorem mr_wordSize {h : PH} (w : MW h) : gR h pMo 10 = some pMo_wordSize := w.2.2.2.2.1
theorem ma_wordSize {h : PH} (w : MW h) : isAr h pMo_wordSize 0 := ⟨Nat.lt_of_lt_of_le (by decide) w.1, 12, rfl⟩
theorem ml_wordSize : lnA pMo_wordSize = 12 := rfl
theorem mr_subs {h : PH} (w : MW h) : gR h pMo 11 = some pMo_subs := w.2.2.2.2.2.1
theorem ma_subs {h : PH} (w : MW h) : isAr h pMo_subs 0 := ⟨Nat.lt_of_lt_of_le (by decide) w.1, 240, rfl⟩
theorem ml_subs : lnA pMo_subs = 240 := rfl
theorem mr_subSize {h : PH} (w : MW h) : gR h pMo 12 = some pMo_subSize := w.2.2.2.2.2.2.1
theorem ma_subSize {h : PH} (w : MW h) : isAr h pMo_subSize 0 := ⟨Nat.lt_of_lt_of_le (by decide) w.1, 6, rfl⟩
theorem ml_subSize : lnA pMo_subSize = 6 := rfl
theorem mr_asked {h : PH} (w : MW h) : gR h pMo 13 = some pMo_asked := w.2.2.2.2.2.2.2.1
theorem ma_asked {h : PH} (w : MW h) : isAr h pMo_asked 0 := ⟨Nat.lt_of_lt_of_le (by decide) w.1, 40, rfl⟩
theorem ml_asked : lnA pMo_asked = 40 := rfl
theorem mr_pile {h : PH} (w : MW h) : gR h pMo 17 = some pMo_pile := w.2.2.2.2.2.2.2.2.1
theorem ma_pile {h : PH} (w : MW h) : isAr h pMo_pile 0 := ⟨Nat.lt_of_lt_of_le (by decide) w.1, 12000, rfl⟩
theorem ml_pile : lnA pMo_pile = 12000 := rfl
theorem mr_pileSize {h : PH} (w : MW h) : gR h pMo 18 = some pMo_pileSize := w.2.2.2.2.2.2.2.2.2.1
theorem ma_pileSize {h : PH} (w : MW h) : isAr h pMo_pileSize 0 := ⟨Nat.lt_of_lt_of_le (by decide) w.1, 40, rfl⟩
theorem ml_pileSize : lnA pMo_pileSize = 40 := rfl
theorem mr_opened {h : PH} (w : MW h) : gR h pMo 20 = some pMo_opened := w.2.2.2.2.2.2.2.2.2.2.1
theorem ma_opened {h : PH} (w : MW h) : isAr h pMo_opened 0 := ⟨Nat.lt_of_lt_of_le (by decide) w.1, 9, rfl⟩
theorem ml_opened : lnA pMo_opened = 9 := rfl
theorem mr_openedAt {h : PH} (w : MW h) : gR h pMo 21 = some pMo_openedAt := w.2.2.2.2.2.2.2.2.2.2.2.1
theorem ma_openedAt {h : PH} (w : MW h) : isAr h pMo_openedAt 0 := ⟨Nat.lt_of_lt_of_le (by decide) w.1, 9, rfl⟩
theorem ml_openedAt : lnA pMo_openedAt = 9 := rfl
theorem mr_begun {h : PH} (w : MW h) : gR h pMo 22 = some pMo_begun := w.2.2.2.2.2.2.2.2.2.2.2.2.1
theorem ma_begun {h : PH} (w : MW h) : isAr h pMo_begun 0 := ⟨Nat.lt_of_lt_of_le (by decide) w.1, 9, rfl⟩
theorem ml_begun : lnA pMo_begun = 9 := rfl
theorem mr_cells {h : PH} (w : MW h) : gR h pMo 23 = some pMo_cells := w.2.2.2.2.2.2.2.2.2.2.2.2.2.1
theorem ma_cells {h : PH} (w : MW h) : isAr h pMo_cells 0 := ⟨Nat.lt_of_lt_of_le (by decide) w.1, 20000, rfl⟩
theorem ml_cells : lnA pMo_cells = 20000 := rfl
theorem mr_keptCells {h : PH} (w : MW h) : gR h pMo 24 = some pMo_keptCells := w.2.2.2.2.2.2.2.2.2.2.2.2.2.2.1
theorem ma_keptCells {h : PH} (w : MW h) : isAr h pMo_keptCells 0 := ⟨Nat.lt_of_lt_of_le (by decide) w.1, 20000, rfl⟩
theorem ml_keptCells : lnA pMo_keptCells = 20000 := rfl
theorem mr_name {h : PH} (w : MW h) : gR h pMo 25 = some pMo_name := w.2.2.2.2.2.2.2.2.2.2.2.2.2.2.2.1
theorem ma_name {h : PH} (w : MW h) : isAr h pMo_name 0 := ⟨Nat.lt_of_lt_of_le (by decide) w.1, 2000, rfl⟩
theorem ml_name : lnA pMo_name = 2000 := rfl
theorem mr_isLeft {h : PH} (w : MW h) : gR h pMo 26 = some pMo_isLeft := w.2.2.2.2.2.2.2.2.2.2.2.2.2.2.2.2.1
theorem ma_isLeft {h : PH} (w : MW h) : isAr h pMo_isLeft 2 := ⟨Nat.lt_of_lt_of_le (by decide) w.1, 2000, rfl⟩
theorem ml_isLeft : lnA pMo_isLeft = 2000 := rfl
theorem mr_isDone {h : PH} (w : MW h) : gR h pMo 27 = some pMo_isDone := w.2.2.2.2.2.2.2.2.2.2.2.2.2.2.2.2.2.1
theorem ma_isDone {h : PH} (w : MW h) : isAr h pMo_isDone 2 := ⟨Nat.lt_of_lt_of_le (by decide) w.1, 2000, rfl⟩
theorem ml_isDone : lnA pMo_isDone = 2000 := rfl
theorem mr_keptLeft {h : PH} (w : MW h) : gR h pMo 28 = some pMo_keptLeft := w.2.2.2.2.2.2.2.2.2.2.2.2.2.2.2.2.2.2.1
theorem ma_keptLeft {h : PH} (w : MW h) : isAr h pMo_keptLeft 2 := ⟨Nat.lt_of_lt_of_le (by decide) w.1, 2000, rfl⟩
theorem ml_keptLeft : lnA pMo_keptLeft = 2000 := rfl
theorem mr_keptDone {h : PH} (w : MW h) : gR h pMo 29 = some pMo_keptDone := w.2.2.2.2.2.2.2.2.2.2.2.2.2.2.2.2.2.2.2.1
theorem ma_keptDone {h : PH} (w : MW h) : isAr h pMo_keptDone 2 := ⟨Nat.lt_of_lt_of_le (by decide) w.1, 2000, rfl⟩
theorem ml_keptDone : lnA pMo_keptDone = 2000 := rfl
theorem mr_state {h : PH} (w : MW h) : gR h pMo 30 = some pMo_state := w.2.2.2.2.2.2.2.2.2.2.2.2.2.2.2.2.2.2.2.2.1
theorem ma_state {h : PH} (w : MW h) : isAr h pMo_state 0 := ⟨Nat.lt_of_lt_of_le (by decide) w.1, 11, rfl⟩
theorem ml_state : lnA pMo_state = 11 := rfl
theorem mr_keptState {h : PH} (w : MW h) : gR h pMo 31 = some pMo_keptState := w.2.2.2.2.2.2.2.2.2.2.2.2.2.2.2.2.2.2.2.2.2.1
theorem ma_keptState {h : PH} (w : MW h) : isAr h pMo_keptState 0 := ⟨Nat.lt_of_lt_of_le (by decide) w.1, 11, rfl⟩
theorem ml_keptState : lnA pMo_keptState = 11 := rfl
theorem mr_newOf {h : PH} (w : MW h) : gR h pMo 40 = some pMo_newOf := w.2.2.2.2.2.2.2.2.2.2.2.2.2.2.2.2.2.2.2.2.2.2.1
theorem ma_newOf {h : PH} (w : MW h) : isAr h pMo_newOf 0 := ⟨Nat.lt_of_lt_of_le (by decide) w.1, 2000, rfl⟩
theorem ml_newOf : lnA pMo_newOf = 2000 := rfl
theorem mr_oldOf {h : PH} (w : MW h) : gR h pMo 41 = some pMo_oldOf := w.2.2.2.2.2.2.2.2.2.2.2.2.2.2.2.2.2.2.2.2.2.2.2.1
theorem ma_oldOf {h : PH} (w : MW h) : isAr h pMo_oldOf 0 := ⟨Nat.lt_of_lt_of_le (by decide) w.1, 300, rfl⟩
theorem ml_oldOf : lnA pMo_oldOf = 300 := rfl
theorem mr_spare {h : PH} (w : MW h) : gR h pMo 43 = some pMo_spare := w.2.2.2.2.2.2.2.2.2.2.2.2.2.2.2.2.2.2.2.2.2.2.2.2.1
theorem ma_spare {h : PH} (w : MW h) : isAr h pMo_spare 0 := ⟨Nat.lt_of_lt_of_le (by decide) w.1, 3000, rfl⟩
theorem ml_spare : lnA pMo_spare = 3000 := rfl
theorem mr_spareDone {h : PH} (w : MW h) : gR h pMo 44 = some pMo_spareDone := w.2.2.2.2.2.2.2.2.2.2.2.2.2.2.2.2.2.2.2.2.2.2.2.2.2.1
theorem ma_spareDone {h : PH} (w : MW h) : isAr h pMo_spareDone 2 := ⟨Nat.lt_of_lt_of_le (by decide) w.1, 300, rfl⟩
theorem ml_spareDone : lnA pMo_spareDone = 300 := rfl
theorem mr_out {h : PH} (w : MW h) : gR h pMo 45 = some pMo_out := w.2.2.2.2.2.2.2.2.2.2.2.2.2.2.2.2.2.2.2.2.2.2.2.2.2.2.1
theorem ma_out {h : PH} (w : MW h) : isAr h pMo_out 1 := ⟨Nat.lt_of_lt_of_le (by decide) w.1, 640, rfl⟩
theorem ml_out : lnA pMo_out = 640 := rfl
theorem mr_metFrom {h : PH} (w : MW h) : gR h pMo 47 = some pMo_metFrom := w.2.2.2.2.2.2.2.2.2.2.2.2.2.2.2.2.2.2.2.2.2.2.2.2.2.2.2.1
theorem ma_metFrom {h : PH} (w : MW h) : isAr h pMo_metFrom 0 := ⟨Nat.lt_of_lt_of_le (by decide) w.1, 2000, rfl⟩
theorem ml_metFrom : lnA pMo_metFrom = 2000 := rfl
theorem mr_metBy {h : PH} (w : MW h) : gR h pMo 48 = some pMo_metBy := w.2.2.2.2.2.2.2.2.2.2.2.2.2.2.2.2.2.2.2.2.2.2.2.2.2.2.2.2.1
theorem ma_metBy {h : PH} (w : MW h) : isAr h pMo_metBy 0 := ⟨Nat.lt_of_lt_of_le (by decide) w.1, 2000, rfl⟩
theorem ml_metBy : lnA pMo_metBy = 2000 := rfl
theorem mr_far {h : PH} (w : MW h) : gR h pMo 49 = some pMo_far := w.2.2.2.2.2.2.2.2.2.2.2.2.2.2.2.2.2.2.2.2.2.2.2.2.2.2.2.2.2.1
theorem ma_far {h : PH} (w : MW h) : isAr h pMo_far 0 := ⟨Nat.lt_of_lt_of_le (by decide) w.1, 2000, rfl⟩
theorem ml_far : lnA pMo_far = 2000 := rfl
theorem mr_low {h : PH} (w : MW h) : gR h pMo 50 = some pMo_low := w.2.2.2.2.2.2.2.2.2.2.2.2.2.2.2.2.2.2.2.2.2.2.2.2.2.2.2.2.2.2.1
theorem ma_low {h : PH} (w : MW h) : isAr h pMo_low 0 := ⟨Nat.lt_of_lt_of_le (by decide) w.1, 60, rfl⟩
theorem ml_low : lnA pMo_low = 60 := rfl
theorem mr_lows {h : PH} (w : MW h) : gR h pMo 51 = some pMo_lows := w.2.2.2.2.2.2.2.2.2.2.2.2.2.2.2.2.2.2.2.2.2.2.2.2.2.2.2.2.2.2.2.1
theorem ma_lows {h : PH} (w : MW h) : isAr h pMo_lows 0 := ⟨Nat.lt_of_lt_of_le (by decide) w.1, 2400, rfl⟩
theorem ml_lows : lnA pMo_lows = 2400 := rfl
theorem mr_lowSize {h : PH} (w : MW h) : gR h pMo 52 = some pMo_lowSize := w.2.2.2.2.2.2.2.2.2.2.2.2.2.2.2.2.2.2.2.2.2.2.2.2.2.2.2.2.2.2.2.2.1
theorem ma_lowSize {h : PH} (w : MW h) : isAr h pMo_lowSize 0 := ⟨Nat.lt_of_lt_of_le (by decide) w.1, 40, rfl⟩
theorem ml_lowSize : lnA pMo_lowSize = 40 := rfl
theorem mr_triedRow {h : PH} (w : MW h) : gR h pMo 61 = some pMo_triedRow := w.2.2.2.2.2.2.2.2.2.2.2.2.2.2.2.2.2.2.2.2.2.2.2.2.2.2.2.2.2.2.2.2.2.1
theorem ma_triedRow {h : PH} (w : MW h) : isAr h pMo_triedRow 0 := ⟨Nat.lt_of_lt_of_le (by decide) w.1, 61, rfl⟩
theorem ml_triedRow : lnA pMo_triedRow = 61 := rfl
theorem mr_triedColumn {h : PH} (w : MW h) : gR h pMo 62 = some pMo_triedColumn := w.2.2.2.2.2.2.2.2.2.2.2.2.2.2.2.2.2.2.2.2.2.2.2.2.2.2.2.2.2.2.2.2.2.2.1
theorem ma_triedColumn {h : PH} (w : MW h) : isAr h pMo_triedColumn 0 := ⟨Nat.lt_of_lt_of_le (by decide) w.1, 61, rfl⟩
theorem ml_triedColumn : lnA pMo_triedColumn = 61 := rfl
theorem mr_triedValue {h : PH} (w : MW h) : gR h pMo 63 = some pMo_triedValue := w.2.2.2.2.2.2.2.2.2.2.2.2.2.2.2.2.2.2.2.2.2.2.2.2.2.2.2.2.2.2.2.2.2.2.2.1
theorem ma_triedValue {h : PH} (w : MW h) : isAr h pMo_triedValue 0 := ⟨Nat.lt_of_lt_of_le (by decide) w.1, 61, rfl⟩
theorem ml_triedValue : lnA pMo_triedValue = 61 := rfl
theorem mr_triedRows {h : PH} (w : MW h) : gR h pMo 64 = some pMo_triedRows := w.2.2.2.2.2.2.2.2.2.2.2.2.2.2.2.2.2.2.2.2.2.2.2.2.2.2.2.2.2.2.2.2.2.2.2.2.1
theorem ma_triedRows {h : PH} (w : MW h) : isAr h pMo_triedRows 0 := ⟨Nat.lt_of_lt_of_le (by decide) w.1, 61, rfl⟩
theorem ml_triedRows : lnA pMo_triedRows = 61 := rfl
theorem mr_sheet {h : PH} (w : MW h) : gR h pMo 65 = some pMo_sheet := w.2.2.2.2.2.2.2.2.2.2.2.2.2.2.2.2.2.2.2.2.2.2.2.2.2.2.2.2.2.2.2.2.2.2.2.2.2
theorem ma_sheet {h : PH} (w : MW h) : isAr h pMo_sheet 0 := ⟨Nat.lt_of_lt_of_le (by decide) w.1, 400, rfl⟩
theorem ml_sheet : lnA pMo_sheet = 400 := rfl
theorem mo_O {h : PH} (w : MW h) : isO h pMo 9 := ⟨Nat.lt_of_lt_of_le (by decide) w.1, rfl⟩
theorem isO_sI {h : PH} {a b ci : Nat} {k v : Int} : isO (sI h a k v) b ci ↔ isO h b ci := Iff.rfl
theorem isO_sA {h : PH} {a b ci : Nat} {f : Int → Int} : isO (sA h a f) b ci ↔ isO h b ci := Iff.rfl
theorem isO_sR {h : PH} {a b ci : Nat} {k : Int} {v : Option Nat} : isO (sR h a k v) b ci ↔ isO h b ci := Iff.rfl
theorem isAr_sI {h : PH} {a b ci : Nat} {k v : Int} : isAr (sI h a k v) b ci ↔ isAr h b ci := Iff.rfl
theorem isAr_sA {h : PH} {a b ci : Nat} {f : Int → Int} : isAr (sA h a f) b ci ↔ isAr h b ci := Iff.rfl
theorem isAr_sR {h : PH} {a b ci : Nat} {k : Int} {v : Option Nat} : isAr (sR h a k v) b ci ↔ isAr h b ci := Iff.rfl
theorem hC_sI {h : PH} {a : Nat} {k v : Int} : hC (sI h a k v) = hC h := rfl
theorem hC_sA {h : PH} {a : Nat} {f : Int → Int} : hC (sA h a f) = hC h := rfl
theorem hC_sR {h : PH} {a : Nat} {k : Int} {v : Option Nat} : hC (sR h a k v) = hC h := rfl
theorem hZ_sI {h : PH} {a : Nat} {k v : Int} : hZ (sI h a k v) = hZ h := rfl
theorem hZ_sA {h : PH} {a : Nat} {f : Int → Int} : hZ (sA h a f) = hZ h := rfl
theorem hZ_sR {h : PH} {a : Nat} {k : Int} {v : Option Nat} : hZ (sR h a k v) = hZ h := rfl
/-- a method without loops that makes nothing -/
theorem met0 {y : MethodName} {md : MD} {Ct : CtT} {body : TT} (hy : plainName y.cls = true) (hown : md.1 = y.cls) (hin : md.2.2.2.2.2.2 = false) (hb : ∀ lc lz, Snd md lc lz 0 body)
    (vc : ∀ (av : List PV) (h : PH) (post : TR), Ct av h post → okH h → (∀ v ∈ av, okV (hN h) v) → (entA av).length ≤ md.2.2.1 ∧ body (fun _ _ _ => False) (fun r h' => post r h' ∧ hC h' = hC h ∧ hZ h' = hZ h) (fitL md.2.2.1 (entA av)) [] h) : MetP y md (fun _ => 0) (fun _ => 0) Ct :=
  met_of (body := fun _ _ => body) (cs := fun _ _ => []) hy hown (fun h => by rw [hin] at h; cases h) (fun lc lz => hb lc lz) (fun _ _ q hq => by cases hq) (fun av h post a b c => ⟨(vc av h post a b c).1, fun _ _ _ => False, fun _ _ _ => 0, fun _ _ _ q => q.elim, fun q hq => (by cases hq), (vc av h post a b c).2⟩)
/-- .. with loops -/
theorem metL {y : MethodName} {md : MD} {Ct : CtT} {body : TT} {cs : List (Nat × TT)} (hy : plainName y.cls = true) (hown : md.1 = y.cls) (hin : md.2.2.2.2.2.2 = false) (hb : ∀ lc lz, Snd md lc lz 0 body) (hcs : ∀ lc lz, ∀ q ∈ cs, Snd md lc lz q.1 q.2)
    (vc : ∀ (av : List PV) (h : PH) (post : TR), Ct av h post → okH h → (∀ v ∈ av, okV (hN h) v) → (entA av).length ≤ md.2.2.1 ∧ ∃ (I : Nat → LSt → PH → Prop) (μ : Nat → LSt → PH → Nat), (∀ pc ls h', I pc ls h' → ∃ q ∈ cs, q.1 = pc) ∧
      (∀ q ∈ cs, ∀ ls h', I q.1 ls h' → q.2 (fun pc' ls' h'' => I pc' ls' h'' ∧ μ pc' ls' h'' < μ q.1 ls h') (fun r h'' => post r h'' ∧ hC h'' = hC h ∧ hZ h'' = hZ h) ls [] h') ∧
      body I (fun r h'' => post r h'' ∧ hC h'' = hC h ∧ hZ h'' = hZ h) (fitL md.2.2.1 (entA av)) [] h) : MetP y md (fun _ => 0) (fun _ => 0) Ct :=
  met_of (body := fun _ _ => body) (cs := fun _ _ => cs) hy hown (fun h => by rw [hin] at h; cases h) (fun lc lz => hb lc lz) hcs (fun av h post a b c => vc av h post a b c)
theorem PH_ext {h h' : PH} (h1 : ∀ a k, gI h' a k = gI h a k) (h2 : ∀ a k, gR h' a k = gR h a k) (h3 : hN h' = hN h) (h4 : hC h' = hC h) (h5 : hZ h' = hZ h) : h' = h := by
  obtain ⟨a1, a2, a3, a4, a5⟩ := h
  obtain ⟨b1, b2, b3, b4, b5⟩ := h'
  have e1 : b1 = a1 := by funext a k; exact h1 a k
  have e2 : b2 = a2 := by funext a k; exact h2 a k
  have e3 : b3 = a3 := h3
  have e4 : b4 = a4 := h4
  have e5 : b5 = a5 := h5
  rw [e1, e2, e3, e4, e5]
theorem sI_sI {h : PH} {a : Nat} {k v u : Int} : sI (sI h a k u) a k v = sI h a k v := by
  refine PH_ext (fun b j => ?_) (fun _ _ => rfl) rfl rfl rfl
  simp only [gI_sI]
  split <;> rfl
theorem sI_id {h : PH} {a : Nat} {k : Int} : sI h a k (gI h a k) = h := by
  refine PH_ext (fun b j => ?_) (fun _ _ => rfl) rfl rfl rfl
  simp only [gI_sI]
  split
  · rename_i q; rw [q.1, q.2]
  · rfl
def locI (ls : LSt) (n : Nat) : Int := match nth ls n with
  | some (.inl z) => z
  | _ => 0
def upI (f : Int → Int) (k v : Int) : Int → Int := fun j => if j = k then v else f j
theorem sI_sA {h : PH} {a : Nat} {f : Int → Int} {k v : Int} : sI (sA h a f) a k v = sA h a (upI f k v) := by
  refine PH_ext (fun b j => ?_) (fun _ _ => rfl) rfl rfl rfl
  simp only [gI_sI, gI_sA, upI]
  by_cases e : b = a <;> simp [e]
theorem sA_sA {h : PH} {a : Nat} {f g : Int → Int} : sA (sA h a f) a g = sA h a g := by
  refine PH_ext (fun b j => ?_) (fun _ _ => rfl) rfl rfl rfl
  simp only [gI_sA]
  split <;> rfl
theorem sA_id {h : PH} {a : Nat} : sA h a (gI h a) = h := by
  refine PH_ext (fun b j => ?_) (fun _ _ => rfl) rfl rfl rfl
  simp only [gI_sA]
  split
  · rename_i q; rw [q]
  · rfl
theorem sI_A {h : PH} {a : Nat} {k v : Int} : sI h a k v = sA h a (upI (gI h a) k v) := by
  rw [← sI_sA, sA_id]
theorem sA_com {h : PH} {a b : Nat} {f g : Int → Int} (hab : a ≠ b) : sA (sA h a f) b g = sA (sA h b g) a f := by
  refine PH_ext (fun c j => ?_) (fun _ _ => rfl) rfl rfl rfl
  simp only [gI_sA]
  by_cases e : c = a <;> by_cases e2 : c = b
  · exact absurd (e.symm.trans e2) hab
  · rw [if_neg e2, if_pos e, if_pos e]
  · rw [if_pos e2, if_neg e, if_pos e2]
  · rw [if_neg e2, if_neg e, if_neg e, if_neg e2]
theorem sI_com {h : PH} {a b : Nat} {i j u v : Int} (hab : a ≠ b ∨ i ≠ j) : sI (sI h a i u) b j v = sI (sI h b j v) a i u := by
  refine PH_ext (fun c k => ?_) (fun _ _ => rfl) rfl rfl rfl
  simp only [gI_sI]
  by_cases e : c = a ∧ k = i <;> by_cases e2 : c = b ∧ k = j
  · rcases hab with q | q
    · exact absurd (e.1.symm.trans e2.1) q
    · exact absurd (e.2.symm.trans e2.2) q
  · rw [if_neg e2, if_pos e, if_pos e]
  · rw [if_pos e2, if_neg e, if_pos e2]
  · rw [if_neg e2, if_neg e, if_neg e, if_neg e2]
