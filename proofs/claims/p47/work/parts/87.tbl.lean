section
/-- a private method of a class that the tables say can be made, by its rows of tables_1 -/
def lw_okq (q : MethodName × Nat) : Prop := (q.1.cls ≠ "java/lang/invoke/MethodHandle" ∧ q.1.cls ≠ "java/lang/invoke/VarHandle") ∧ Cond.instantiable q.1.cls q.2 ∈ tables_1 ∧ Cond.privateMethod q.1 ∈ tables_1 ∧ Cond.instanceMethod q.1 ∈ tables_1
/-- the rows of a list that lie behind so many others each -/
noncomputable def tb_pk (l : List Jvm.Cond) (g : List Nat) : List Jvm.Cond := List.rec (motive := fun _ => List Nat → List Jvm.Cond) (fun _ => []) (fun c _ ih g => List.rec (motive := fun _ => List Jvm.Cond) [] (fun n g _ => Nat.rec (motive := fun _ => List Jvm.Cond) (c :: ih g) (fun m _ => ih (m :: g)) n) g) l g
theorem tb_pk_mem : ∀ (l : List Jvm.Cond) (g : List Nat) (w : Jvm.Cond), w ∈ tb_pk l g → w ∈ l := by
  intro l
  induction l with
  | nil => intro g w h; exact h
  | cons c l ih =>
    intro g w h
    cases g with
    | nil => exact absurd h List.not_mem_nil
    | cons n g =>
      cases n with
      | zero =>
        have h : w ∈ c :: tb_pk l g := h
        rcases List.mem_cons.mp h with e | e
        · rw [e]; exact List.mem_cons_self
        · exact List.mem_cons_of_mem _ (ih g w e)
      | succ m => exact List.mem_cons_of_mem _ (ih (m :: g) w h)
def lw_privs_1 : List (MethodName × Nat) := [(⟨"NameNotes$Tape", "look", "(I)I"⟩, 11), (⟨"NameNotes$Tape", "readRun", "()V"⟩, 11), (⟨"NameNotes$Tape", "findKeyword", "()V"⟩, 11), (⟨"NameNotes$StudioReader", "readLine", "()Z"⟩, 6), (⟨"NameNotes$StudioReader", "readTune", "()Z"⟩, 6), (⟨"NameNotes$StudioReader", "isNewName", "()Z"⟩, 6), (⟨"NameNotes$StudioReader", "isIn", "([JI)Z"⟩, 6), (⟨"NameNotes$StudioReader", "readNote", "(I)Z"⟩, 6), (⟨"NameNotes$StudioReader", "readClue", "()Z"⟩, 6), (⟨"NameNotes$StudioReader", "readLeft", "(I)Z"⟩, 6), (⟨"NameNotes$StudioReader", "readPerson", "()Z"⟩, 6), (⟨"NameNotes$StudioReader", "readKnows", "()Z"⟩, 6), (⟨"NameNotes$StudioReader", "readDare", "()Z"⟩, 6), (⟨"NameNotes$StudioReader", "readFrom", "()Z"⟩, 6), (⟨"NameNotes$Studio", "countShared", "(III)I"⟩, 17), (⟨"NameNotes$Studio", "sameNote", "(IIII)Z"⟩, 17)]
def lw_privs_2 : List (MethodName × Nat) := [(⟨"NameNotes", "chanceOf", "(III)J"⟩, 18), (⟨"NameNotes$Ear", "knowsAny", "(I)J"⟩, 4), (⟨"NameNotes", "canBid", "(IIII)Z"⟩, 18), (⟨"NameNotes", "weigh", "(III)V"⟩, 18), (⟨"NameNotes$Duel", "speakBest", "(III)V"⟩, 3), (⟨"NameNotes", "counter", "(III)V"⟩, 18), (⟨"NameNotes$Duel", "speakAgainst", "(III)V"⟩, 3), (⟨"NameNotes", "addSpeaker", "(I)V"⟩, 18), (⟨"NameNotes", "scoreAll", "(IIZ)V"⟩, 18), (⟨"NameNotes", "scored", "(II)I"⟩, 18), (⟨"NameNotes", "distance", "(II)I"⟩, 18), (⟨"NameNotes$Evening", "readLine", "(LNameNotes$Tape;LNameNotes$Studio;)Z"⟩, 8), (⟨"NameNotes$Evening", "whyWrong", "(III)I"⟩, 8), (⟨"NameNotes", "canSpendNight", "(II)Z"⟩, 18), (⟨"NameNotes$Night", "spendRound", "(LNameNotes$Studio;I)V"⟩, 7), (⟨"NameNotes$Night", "draw", "(I)I"⟩, 7)]
def lw_privs_3 : List (MethodName × Nat) := [(⟨"NameNotes$Night", "drawTune", "(I)I"⟩, 7), (⟨"NameNotes$Night", "drawKnown", "(LNameNotes$Studio;II)V"⟩, 7), (⟨"NameNotes$Night", "wouldBid", "(LNameNotes$Studio;III)Z"⟩, 7), (⟨"NameNotes$Sentence", "readCond", "(LNameNotes$Tape;LNameNotes$Studio;I)Z"⟩, 5), (⟨"NameNotes$Sentence", "readOne", "(LNameNotes$Tape;LNameNotes$Studio;I)Z"⟩, 5), (⟨"NameNotes$Sentence", "addStep", "(II)V"⟩, 5), (⟨"NameNotes$Sentence", "readNamed", "(LNameNotes$Tape;LNameNotes$Studio;I)Z"⟩, 5), (⟨"NameNotes$Sentence", "readMeasured", "(LNameNotes$Tape;I)Z"⟩, 5), (⟨"NameNotes", "imageAt", "(I)LNameNotes$Studio;"⟩, 18), (⟨"NameNotes", "canName", "(IIII)Z"⟩, 18), (⟨"java/lang/Throwable", "fillInStackTrace", "(I)Ljava/lang/Throwable;"⟩, 6), (⟨"NameNotes", "rightChance", "(IIII)J"⟩, 18), (⟨"NameNotes$Ear", "addOther", "(I)V"⟩, 4), (⟨"NameNotesModel", "come", "(I)V"⟩, 63), (⟨"NameNotesModel", "begin", "(I)V"⟩, 63), (⟨"NameNotesModel", "lay", "()V"⟩, 63)]
def lw_privs_4 : List (MethodName × Nat) := [(⟨"NameNotesModel", "take", "()I"⟩, 63), (⟨"NameNotesModel", "go", "()V"⟩, 63), (⟨"NameNotesModel", "tapeAt", "(I)I"⟩, 63), (⟨"NameNotesModel", "readLine", "()Z"⟩, 63), (⟨"NameNotesModel", "isWord", "(I)Z"⟩, 63), (⟨"NameNotesModel", "readTune", "()Z"⟩, 63), (⟨"NameNotesModel", "bad", "(I)Z"⟩, 63), (⟨"NameNotesModel", "readNew", "(I)Z"⟩, 63), (⟨"NameNotesModel", "isName", "()Z"⟩, 63), (⟨"NameNotesModel", "isNumber", "(II)Z"⟩, 63), (⟨"NameNotesModel", "readNumber", "(II)Z"⟩, 63), (⟨"NameNotesModel", "readClue", "()Z"⟩, 63), (⟨"NameNotesModel", "isOne", "(II)Z"⟩, 63), (⟨"NameNotesModel", "readPerson", "()Z"⟩, 63), (⟨"NameNotesModel", "readKnows", "()Z"⟩, 63), (⟨"NameNotesModel", "readDare", "()Z"⟩, 63)]
def lw_privs_5 : List (MethodName × Nat) := [(⟨"NameNotesModel", "readFrom", "()Z"⟩, 63), (⟨"NameNotesModel", "readEnd", "()Z"⟩, 63), (⟨"NameNotesModel", "isSign", "(I)Z"⟩, 63), (⟨"NameNotesModel", "isTune", "(I)Z"⟩, 63), (⟨"NameNotesModel", "tunes", "()I"⟩, 63), (⟨"NameNotesModel", "notes", "(I)I"⟩, 63), (⟨"NameNotesModel", "noteOf", "(III)I"⟩, 63), (⟨"NameNotesModel", "tell", "(II)I"⟩, 63), (⟨"NameNotesModel", "isClue", "(I)Z"⟩, 63), (⟨"NameNotesModel", "isPerson", "(I)Z"⟩, 63), (⟨"NameNotesModel", "known", "(II)I"⟩, 63), (⟨"NameNotesModel", "isLeft", "(I)Z"⟩, 63), (⟨"NameNotesModel", "left", "(I)I"⟩, 63), (⟨"NameNotesModel", "likes", "(IIII)I"⟩, 63), (⟨"NameNotesModel", "areLike", "(IIII)Z"⟩, 63), (⟨"NameNotesModel", "likeNotes", "(III)I"⟩, 63)]
def lw_privs_6 : List (MethodName × Nat) := [(⟨"NameNotesModel", "isLikeNote", "(IIII)Z"⟩, 63), (⟨"NameNotesModel", "enoughOf", "(III)I"⟩, 63), (⟨"NameNotesModel", "apartOf", "(II)I"⟩, 63), (⟨"NameNotesModel", "isLikeNote2", "(IIII)Z"⟩, 63), (⟨"NameNotesModel", "isHeard", "(III)Z"⟩, 63), (⟨"NameNotesModel", "refuse", "()J"⟩, 63), (⟨"NameNotesModel", "layMind", "(I)V"⟩, 63), (⟨"NameNotesModel", "namedBy", "(III)J"⟩, 63), (⟨"NameNotesModel", "part", "(JJI)J"⟩, 63), (⟨"NameNotesModel", "oddsOf", "(III)J"⟩, 63), (⟨"NameNotesModel", "oddsBy", "(II)J"⟩, 63), (⟨"NameNotesModel", "oddsWith", "(IIII)J"⟩, 63), (⟨"NameNotesModel", "isSpeech", "(IIII)Z"⟩, 63), (⟨"NameNotesModel", "isRound", "(III)Z"⟩, 63), (⟨"NameNotesModel", "layBest", "(III)V"⟩, 63), (⟨"NameNotesModel", "layOdds", "(III)V"⟩, 63)]
def lw_privs_7 : List (MethodName × Nat) := [(⟨"NameNotesModel", "highest", "(I)I"⟩, 63), (⟨"NameNotesModel", "layReplies", "(III)V"⟩, 63), (⟨"NameNotesModel", "bidGains", "(II)J"⟩, 63), (⟨"NameNotesModel", "lowOf", "(III)I"⟩, 63), (⟨"NameNotesModel", "putName", "(J)V"⟩, 63), (⟨"NameNotesModel", "put", "(I)V"⟩, 63), (⟨"NameNotesModel", "snap", "()V"⟩, 63), (⟨"NameNotesModel", "layWins", "(II)V"⟩, 63), (⟨"NameNotesModel", "readHeard", "()Z"⟩, 63), (⟨"NameNotesModel", "readBid", "()Z"⟩, 63), (⟨"NameNotesModel", "judgeLine", "(II)V"⟩, 63), (⟨"NameNotesModel", "whyNot", "(II)I"⟩, 63), (⟨"NameNotesModel", "isNight", "(II)Z"⟩, 63), (⟨"NameNotesModel", "nightBy", "(III)I"⟩, 63), (⟨"NameNotesModel", "round", "(III)I"⟩, 63), (⟨"NameNotesModel", "draw", "(I)I"⟩, 63)]
def lw_privs_8 : List (MethodName × Nat) := [(⟨"NameNotesModel", "bids", "(IIIII)Z"⟩, 63), (⟨"NameNotesModel", "readOr", "()Z"⟩, 63), (⟨"NameNotesModel", "readAnd", "()Z"⟩, 63), (⟨"NameNotesModel", "readOne", "()Z"⟩, 63), (⟨"NameNotesModel", "readBracket", "()Z"⟩, 63), (⟨"NameNotesModel", "readNot", "()Z"⟩, 63), (⟨"NameNotesModel", "saysOne", "(IIII)I"⟩, 63), (⟨"NameNotesModel", "readOf", "(III)Z"⟩, 63), (⟨"NameNotesModel", "readCompare", "(I)Z"⟩, 63), (⟨"NameNotesModel", "holds", "(II)Z"⟩, 63)]
def lw_privs : List (MethodName × Nat) := lw_privs_1 ++ (lw_privs_2 ++ (lw_privs_3 ++ (lw_privs_4 ++ (lw_privs_5 ++ (lw_privs_6 ++ (lw_privs_7 ++ (lw_privs_8)))))))
def lw_tbl : List Cond := k2_sels lw_privs ++ tables_1
def lw_cl : List (String × Nat) := [("NameNotes$Tape", 11), ("NameNotes$StudioReader", 6), ("NameNotes$Studio", 17), ("NameNotes", 18), ("NameNotes$Ear", 4), ("NameNotes$Duel", 3), ("NameNotes$Evening", 8), ("NameNotes$Night", 7), ("NameNotes$Sentence", 5), ("java/lang/Throwable", 6), ("NameNotesModel", 63)]
theorem lw_c0 : ("NameNotes$Tape" ≠ "java/lang/invoke/MethodHandle" ∧ "NameNotes$Tape" ≠ "java/lang/invoke/VarHandle") ∧ Cond.instantiable "NameNotes$Tape" 11 ∈ tables_1 := ⟨⟨by decide +kernel, by decide +kernel⟩, List.mem_of_getElem? (i := 34) (by decide +kernel)⟩
theorem lw_c1 : ("NameNotes$StudioReader" ≠ "java/lang/invoke/MethodHandle" ∧ "NameNotes$StudioReader" ≠ "java/lang/invoke/VarHandle") ∧ Cond.instantiable "NameNotes$StudioReader" 6 ∈ tables_1 := ⟨⟨by decide +kernel, by decide +kernel⟩, List.mem_of_getElem? (i := 208) (by decide +kernel)⟩
theorem lw_c2 : ("NameNotes$Studio" ≠ "java/lang/invoke/MethodHandle" ∧ "NameNotes$Studio" ≠ "java/lang/invoke/VarHandle") ∧ Cond.instantiable "NameNotes$Studio" 17 ∈ tables_1 := ⟨⟨by decide +kernel, by decide +kernel⟩, List.mem_of_getElem? (i := 87) (by decide +kernel)⟩
theorem lw_c3 : ("NameNotes" ≠ "java/lang/invoke/MethodHandle" ∧ "NameNotes" ≠ "java/lang/invoke/VarHandle") ∧ Cond.instantiable "NameNotes" 18 ∈ tables_1 := ⟨⟨by decide +kernel, by decide +kernel⟩, List.mem_of_getElem? (i := 26) (by decide +kernel)⟩
theorem lw_c4 : ("NameNotes$Ear" ≠ "java/lang/invoke/MethodHandle" ∧ "NameNotes$Ear" ≠ "java/lang/invoke/VarHandle") ∧ Cond.instantiable "NameNotes$Ear" 4 ∈ tables_1 := ⟨⟨by decide +kernel, by decide +kernel⟩, List.mem_of_getElem? (i := 274) (by decide +kernel)⟩
theorem lw_c5 : ("NameNotes$Duel" ≠ "java/lang/invoke/MethodHandle" ∧ "NameNotes$Duel" ≠ "java/lang/invoke/VarHandle") ∧ Cond.instantiable "NameNotes$Duel" 3 ∈ tables_1 := ⟨⟨by decide +kernel, by decide +kernel⟩, List.mem_of_getElem? (i := 293) (by decide +kernel)⟩
theorem lw_c6 : ("NameNotes$Evening" ≠ "java/lang/invoke/MethodHandle" ∧ "NameNotes$Evening" ≠ "java/lang/invoke/VarHandle") ∧ Cond.instantiable "NameNotes$Evening" 8 ∈ tables_1 := ⟨⟨by decide +kernel, by decide +kernel⟩, List.mem_of_getElem? (i := 239) (by decide +kernel)⟩
theorem lw_c7 : ("NameNotes$Night" ≠ "java/lang/invoke/MethodHandle" ∧ "NameNotes$Night" ≠ "java/lang/invoke/VarHandle") ∧ Cond.instantiable "NameNotes$Night" 7 ∈ tables_1 := ⟨⟨by decide +kernel, by decide +kernel⟩, List.mem_of_getElem? (i := 309) (by decide +kernel)⟩
theorem lw_c8 : ("NameNotes$Sentence" ≠ "java/lang/invoke/MethodHandle" ∧ "NameNotes$Sentence" ≠ "java/lang/invoke/VarHandle") ∧ Cond.instantiable "NameNotes$Sentence" 5 ∈ tables_1 := ⟨⟨by decide +kernel, by decide +kernel⟩, List.mem_of_getElem? (i := 93) (by decide +kernel)⟩
theorem lw_c9 : ("java/lang/Throwable" ≠ "java/lang/invoke/MethodHandle" ∧ "java/lang/Throwable" ≠ "java/lang/invoke/VarHandle") ∧ Cond.instantiable "java/lang/Throwable" 6 ∈ tables_1 := ⟨⟨by decide +kernel, by decide +kernel⟩, List.mem_of_getElem? (i := 1332) (by decide +kernel)⟩
theorem lw_c10 : ("NameNotesModel" ≠ "java/lang/invoke/MethodHandle" ∧ "NameNotesModel" ≠ "java/lang/invoke/VarHandle") ∧ Cond.instantiable "NameNotesModel" 63 ∈ tables_1 := ⟨⟨by decide +kernel, by decide +kernel⟩, List.mem_of_getElem? (i := 1448) (by decide +kernel)⟩
theorem lw_ca : ∀ c ∈ lw_cl, (c.1 ≠ "java/lang/invoke/MethodHandle" ∧ c.1 ≠ "java/lang/invoke/VarHandle") ∧ Cond.instantiable c.1 c.2 ∈ tables_1 := List.forall_mem_cons.mpr ⟨lw_c0, List.forall_mem_cons.mpr ⟨lw_c1, List.forall_mem_cons.mpr ⟨lw_c2, List.forall_mem_cons.mpr ⟨lw_c3, List.forall_mem_cons.mpr ⟨lw_c4, List.forall_mem_cons.mpr ⟨lw_c5, List.forall_mem_cons.mpr ⟨lw_c6, List.forall_mem_cons.mpr ⟨lw_c7, List.forall_mem_cons.mpr ⟨lw_c8, List.forall_mem_cons.mpr ⟨lw_c9, List.forall_mem_cons.mpr ⟨lw_c10, fun _ h => absurd h List.not_mem_nil⟩⟩⟩⟩⟩⟩⟩⟩⟩⟩⟩
theorem lw_cb : (lw_privs.zip [0, 0, 0, 1, 1, 1, 1, 1, 1, 1, 1, 1, 1, 1, 2, 2, 3, 4, 3, 3, 5, 3, 5, 3, 3, 3, 3, 6, 6, 3, 7, 7, 7, 7, 7, 8, 8, 8, 8, 8, 3, 3, 9, 3, 4, 10, 10, 10, 10, 10, 10, 10, 10, 10, 10, 10, 10, 10, 10, 10, 10, 10, 10, 10, 10, 10, 10, 10, 10, 10, 10, 10, 10, 10, 10, 10, 10, 10, 10, 10, 10, 10, 10, 10, 10, 10, 10, 10, 10, 10, 10, 10, 10, 10, 10, 10, 10, 10, 10, 10, 10, 10, 10, 10, 10, 10, 10, 10, 10, 10, 10, 10, 10, 10, 10, 10, 10, 10, 10, 10, 10, 10]).all (fun q => decide (lw_cl[q.2]? = some (q.1.1.cls, q.1.2))) = true := by decide +kernel
theorem lw_zp : ∀ (l : List (MethodName × Nat)) (js : List Nat), js.length = l.length → (l.zip js).all (fun q => decide (lw_cl[q.2]? = some (q.1.1.cls, q.1.2))) = true → ∀ q ∈ l, (q.1.cls, q.2) ∈ lw_cl := by
  intro l
  induction l with
  | nil => intro js _ _ q h; exact absurd h List.not_mem_nil
  | cons a l ih =>
    intro js e h q hq
    cases js with
    | nil => cases e
    | cons j js =>
      have h : (decide (lw_cl[j]? = some (a.1.cls, a.2)) && (l.zip js).all (fun q => decide (lw_cl[q.2]? = some (q.1.1.cls, q.1.2)))) = true := h
      rw [Bool.and_eq_true] at h
      rcases List.mem_cons.mp hq with r | r
      · rw [r]; exact List.mem_of_getElem? (of_decide_eq_true h.1)
      · exact ih js (Nat.succ.inj e) h.2 q r
set_option maxRecDepth 100000 in
set_option maxHeartbeats 4000000 in
theorem lw_pa : tb_pk tables_1 [469, 12, 8, 8, 9, 8, 7, 9, 13, 3, 13, 5, 10, 5, 14, 3, 152, 19, 26, 3, 15, 16, 7, 107, 58, 3, 25, 47, 12, 11, 7, 3, 5, 7, 7, 35, 3, 26, 4, 4, 34, 19, 37, 30, 7, 278, 11, 3, 3, 3, 9, 5, 3, 9, 3, 3, 3, 6, 6, 3, 3, 6, 3, 3, 3, 3, 3, 11, 3, 3, 3, 7, 11, 7, 3, 14, 3, 3, 3, 3, 3, 11, 19, 3, 29, 3, 3, 3, 7, 10, 3, 30, 11, 3, 3, 3, 3, 11, 3, 16, 15, 3, 19, 18, 19, 3, 3, 3, 15, 3, 3, 3, 7, 15, 3, 3, 3, 3, 3, 3, 3, 7] = lw_privs.map (fun q => Cond.privateMethod q.1) := rfl
set_option maxRecDepth 100000 in
set_option maxHeartbeats 4000000 in
theorem lw_pb : tb_pk tables_1 [470, 12, 8, 8, 9, 8, 7, 9, 13, 3, 13, 5, 10, 5, 14, 3, 152, 19, 26, 3, 15, 16, 7, 107, 58, 3, 25, 47, 12, 11, 7, 3, 5, 7, 7, 35, 3, 26, 4, 4, 34, 19, 37, 30, 7, 278, 11, 3, 3, 3, 9, 5, 3, 9, 3, 3, 3, 6, 6, 3, 3, 6, 3, 3, 3, 3, 3, 11, 3, 3, 3, 7, 11, 7, 3, 14, 3, 3, 3, 3, 3, 11, 19, 3, 29, 3, 3, 3, 7, 10, 3, 30, 11, 3, 3, 3, 3, 11, 3, 16, 15, 3, 19, 18, 19, 3, 3, 3, 15, 3, 3, 3, 7, 15, 3, 3, 3, 3, 3, 3, 3, 7] = lw_privs.map (fun q => Cond.instanceMethod q.1) := rfl
theorem lw_privs_ok : ∀ q ∈ lw_privs, lw_okq q := fun q hq => by
  have c := lw_ca _ (lw_zp lw_privs _ (by decide +kernel) lw_cb q hq)
  exact ⟨c.1, c.2, tb_pk_mem _ _ _ (by rw [lw_pa]; exact List.mem_map.mpr ⟨q, hq, rfl⟩), tb_pk_mem _ _ _ (by rw [lw_pb]; exact List.mem_map.mpr ⟨q, hq, rfl⟩)⟩
end
section
def RX0 : String := "NameNotes$Duel"
def TX0 : u_T := fun k => match k with
  | 0 => ("NameNotes$Duel", "chances", "[J", true)
  | 1 => ("NameNotes$Duel", "values", "[J", true)
  | _ => ("NameNotes$Duel", "moves", "[I", true)
def tyX0 : Nat → FieldType := fun k => match k with
  | 0 => .array .long
  | 1 => .array .long
  | _ => .array .int
abbrev wsX00 : List Cond := u_ws RX0 TX0 3
theorem nmX0 : ∀ a, a < 3 → ∀ b, b < 3 → a ≠ b → (TX0 a).2.1 ≠ (TX0 b).2.1 := by decide +kernel
theorem tyX0_ok : ∀ k, k < 3 → parseFieldDescriptor (TX0 k).2.2.1 = some (tyX0 k) := by decide +kernel
abbrev cX0_init : ByteArray := prog_2_method_1_code
def yX0_init : MethodName := ⟨RX0, "<init>", "()V"⟩
abbrev cX0_hear : ByteArray := prog_2_method_2_code
def yX0_hear : MethodName := ⟨RX0, "hear", "(LNameNotes$Studio;LNameNotes$Ear;III)V"⟩
abbrev cX0_doBest : ByteArray := prog_2_method_3_code
def yX0_doBest : MethodName := ⟨RX0, "doBest", "(I)V"⟩
abbrev cX0_speakBest : ByteArray := prog_2_method_4_code
def yX0_speakBest : MethodName := ⟨RX0, "speakBest", "(III)V"⟩
abbrev cX0_doAgainst : ByteArray := prog_2_method_5_code
def yX0_doAgainst : MethodName := ⟨RX0, "doAgainst", "(II)V"⟩
abbrev cX0_speakAgainst : ByteArray := prog_2_method_6_code
def yX0_speakAgainst : MethodName := ⟨RX0, "speakAgainst", "(III)V"⟩
abbrev cX0_value : ByteArray := prog_2_method_7_code
def yX0_value : MethodName := ⟨RX0, "value", "(II)J"⟩
abbrev cX0_move : ByteArray := prog_2_method_8_code
def yX0_move : MethodName := ⟨RX0, "move", "(II)I"⟩
abbrev cX0_lastBid : ByteArray := prog_2_method_9_code
def yX0_lastBid : MethodName := ⟨RX0, "lastBid", "()I"⟩
def RX1 : String := "NameNotes$Ear"
def TX1 : u_T := fun k => match k with
  | 0 => ("NameNotes$Ear", "ninths", "[I", true)
  | 1 => ("NameNotes$Ear", "groups", "[I", true)
  | 2 => ("NameNotes$Ear", "ways", "[J", true)
  | _ => ("NameNotes$Ear", "left", "I", false)
def tyX1 : Nat → FieldType := fun k => match k with
  | 0 => .array .int
  | 1 => .array .int
  | 2 => .array .long
  | _ => .int
abbrev wsX10 : List Cond := u_ws RX1 TX1 4
theorem nmX1 : ∀ a, a < 4 → ∀ b, b < 4 → a ≠ b → (TX1 a).2.1 ≠ (TX1 b).2.1 := by decide +kernel
theorem tyX1_ok : ∀ k, k < 4 → parseFieldDescriptor (TX1 k).2.2.1 = some (tyX1 k) := by decide +kernel
abbrev cX1_init : ByteArray := prog_3_method_1_code
def yX1_init : MethodName := ⟨RX1, "<init>", "()V"⟩
abbrev cX1_group : ByteArray := prog_3_method_2_code
def yX1_group : MethodName := ⟨RX1, "group", "(LNameNotes$Studio;II)V"⟩
abbrev cX1_listen : ByteArray := prog_3_method_3_code
def yX1_listen : MethodName := ⟨RX1, "listen", "(LNameNotes$Studio;II)V"⟩
abbrev cX1_right : ByteArray := prog_3_method_4_code
def yX1_right : MethodName := ⟨RX1, "right", "(I)J"⟩
abbrev cX1_addOther : ByteArray := prog_3_method_5_code
def yX1_addOther : MethodName := ⟨RX1, "addOther", "(I)V"⟩
abbrev cX1_chance : ByteArray := prog_3_method_6_code
def yX1_chance : MethodName := ⟨RX1, "chance", "()J"⟩
abbrev cX1_knowsAny : ByteArray := prog_3_method_7_code
def yX1_knowsAny : MethodName := ⟨RX1, "knowsAny", "(I)J"⟩
def RX2 : String := "NameNotes$Evening"
def TX2 : u_T := fun k => match k with
  | 0 => ("NameNotes$Evening", "speakers", "[I", true)
  | 1 => ("NameNotes$Evening", "words", "[I", true)
  | 2 => ("NameNotes$Evening", "state", "[I", true)
  | 3 => ("NameNotes$Evening", "lines", "I", false)
  | 4 => ("NameNotes$Evening", "clueRead", "I", false)
  | 5 => ("NameNotes$Evening", "clue", "I", false)
  | 6 => ("NameNotes$Evening", "serial", "I", false)
  | _ => ("NameNotes$Evening", "any", "Z", false)
def tyX2 : Nat → FieldType := fun k => match k with
  | 0 => .array .int
  | 1 => .array .int
  | 2 => .array .int
  | 3 => .int
  | 4 => .int
  | 5 => .int
  | 6 => .int
  | _ => .boolean
abbrev wsX20 : List Cond := u_ws RX2 TX2 8
theorem nmX2 : ∀ a, a < 8 → ∀ b, b < 8 → a ≠ b → (TX2 a).2.1 ≠ (TX2 b).2.1 := by decide +kernel
theorem tyX2_ok : ∀ k, k < 8 → parseFieldDescriptor (TX2 k).2.2.1 = some (tyX2 k) := by decide +kernel
abbrev cX2_init : ByteArray := prog_4_method_1_code
def yX2_init : MethodName := ⟨RX2, "<init>", "()V"⟩
abbrev cX2_read : ByteArray := prog_4_method_2_code
def yX2_read : MethodName := ⟨RX2, "read", "(LNameNotes$Tape;LNameNotes$Studio;)Z"⟩
abbrev cX2_readLine : ByteArray := prog_4_method_3_code
def yX2_readLine : MethodName := ⟨RX2, "readLine", "(LNameNotes$Tape;LNameNotes$Studio;)Z"⟩
abbrev cX2_judge : ByteArray := prog_4_method_4_code
def yX2_judge : MethodName := ⟨RX2, "judge", "(LNameNotes$Studio;)I"⟩
abbrev cX2_whyWrong : ByteArray := prog_4_method_5_code
def yX2_whyWrong : MethodName := ⟨RX2, "whyWrong", "(III)I"⟩
abbrev cX2_isNaming : ByteArray := prog_4_method_6_code
def yX2_isNaming : MethodName := ⟨RX2, "isNaming", "()Z"⟩
abbrev cX2_bidder : ByteArray := prog_4_method_7_code
def yX2_bidder : MethodName := ⟨RX2, "bidder", "()I"⟩
abbrev cX2_bid : ByteArray := prog_4_method_8_code
def yX2_bid : MethodName := ⟨RX2, "bid", "()I"⟩
def RX3 : String := "NameNotes$Journal"
def TX3 : u_T := fun k => match k with
  | 0 => ("NameNotes$Journal", "rows", "[I", true)
  | _ => ("NameNotes$Journal", "size", "I", false)
def tyX3 : Nat → FieldType := fun k => match k with
  | 0 => .array .int
  | _ => .int
abbrev wsX30 : List Cond := u_ws RX3 TX3 2
theorem nmX3 : ∀ a, a < 2 → ∀ b, b < 2 → a ≠ b → (TX3 a).2.1 ≠ (TX3 b).2.1 := by decide +kernel
theorem tyX3_ok : ∀ k, k < 2 → parseFieldDescriptor (TX3 k).2.2.1 = some (tyX3 k) := by decide +kernel
abbrev cX3_init : ByteArray := prog_5_method_1_code
def yX3_init : MethodName := ⟨RX3, "<init>", "()V"⟩
abbrev cX3_keep : ByteArray := prog_5_method_2_code
def yX3_keep : MethodName := ⟨RX3, "keep", "(LNameNotes$Studio;I)V"⟩
abbrev cX3_takeBack : ByteArray := prog_5_method_3_code
def yX3_takeBack : MethodName := ⟨RX3, "takeBack", "(LNameNotes$Studio;)V"⟩
def RX4 : String := "NameNotes$Night"
def TX4 : u_T := fun k => match k with
  | 0 => ("NameNotes$Night", "persons", "[I", true)
  | 1 => ("NameNotes$Night", "points", "[I", true)
  | 2 => ("NameNotes$Night", "known", "[I", true)
  | 3 => ("NameNotes$Night", "seed", "I", false)
  | 4 => ("NameNotes$Night", "rounds", "I", false)
  | 5 => ("NameNotes$Night", "rights", "I", false)
  | _ => ("NameNotes$Night", "least", "I", false)
def tyX4 : Nat → FieldType := fun k => match k with
  | 0 => .array .int
  | 1 => .array .int
  | 2 => .array .int
  | 3 => .int
  | 4 => .int
  | 5 => .int
  | _ => .int
abbrev wsX40 : List Cond := u_ws RX4 TX4 7
theorem nmX4 : ∀ a, a < 7 → ∀ b, b < 7 → a ≠ b → (TX4 a).2.1 ≠ (TX4 b).2.1 := by decide +kernel
theorem tyX4_ok : ∀ k, k < 7 → parseFieldDescriptor (TX4 k).2.2.1 = some (tyX4 k) := by decide +kernel
abbrev cX4_init : ByteArray := prog_6_method_1_code
def yX4_init : MethodName := ⟨RX4, "<init>", "()V"⟩
abbrev cX4_spend : ByteArray := prog_6_method_2_code
def yX4_spend : MethodName := ⟨RX4, "spend", "(LNameNotes$Studio;III)V"⟩
abbrev cX4_firstWins : ByteArray := prog_6_method_3_code
def yX4_firstWins : MethodName := ⟨RX4, "firstWins", "()Z"⟩
abbrev cX4_spendRound : ByteArray := prog_6_method_4_code
def yX4_spendRound : MethodName := ⟨RX4, "spendRound", "(LNameNotes$Studio;I)V"⟩
abbrev cX4_drawKnown : ByteArray := prog_6_method_5_code
def yX4_drawKnown : MethodName := ⟨RX4, "drawKnown", "(LNameNotes$Studio;II)V"⟩
abbrev cX4_wouldBid : ByteArray := prog_6_method_6_code
def yX4_wouldBid : MethodName := ⟨RX4, "wouldBid", "(LNameNotes$Studio;III)Z"⟩
abbrev cX4_drawTune : ByteArray := prog_6_method_7_code
def yX4_drawTune : MethodName := ⟨RX4, "drawTune", "(I)I"⟩
abbrev cX4_draw : ByteArray := prog_6_method_8_code
def yX4_draw : MethodName := ⟨RX4, "draw", "(I)I"⟩
def RX5 : String := "NameNotes$Sentence"
def TX5 : u_T := fun k => match k with
  | 0 => ("NameNotes$Sentence", "kinds", "[I", true)
  | 1 => ("NameNotes$Sentence", "values", "[I", true)
  | 2 => ("NameNotes$Sentence", "stack", "[I", true)
  | 3 => ("NameNotes$Sentence", "steps", "I", false)
  | _ => ("NameNotes$Sentence", "ones", "I", false)
def tyX5 : Nat → FieldType := fun k => match k with
  | 0 => .array .int
  | 1 => .array .int
  | 2 => .array .int
  | 3 => .int
  | _ => .int
abbrev wsX50 : List Cond := u_ws RX5 TX5 5
theorem nmX5 : ∀ a, a < 5 → ∀ b, b < 5 → a ≠ b → (TX5 a).2.1 ≠ (TX5 b).2.1 := by decide +kernel
theorem tyX5_ok : ∀ k, k < 5 → parseFieldDescriptor (TX5 k).2.2.1 = some (tyX5 k) := by decide +kernel
abbrev cX5_init : ByteArray := prog_7_method_1_code
def yX5_init : MethodName := ⟨RX5, "<init>", "()V"⟩
abbrev cX5_clear : ByteArray := prog_7_method_2_code
def yX5_clear : MethodName := ⟨RX5, "clear", "()V"⟩
abbrev cX5_copy : ByteArray := prog_7_method_3_code
def yX5_copy : MethodName := ⟨RX5, "copy", "(LNameNotes$Sentence;)V"⟩
abbrev cX5_read : ByteArray := prog_7_method_4_code
def yX5_read : MethodName := ⟨RX5, "read", "(LNameNotes$Tape;LNameNotes$Studio;)Z"⟩
abbrev cX5_readCond : ByteArray := prog_7_method_5_code
def yX5_readCond : MethodName := ⟨RX5, "readCond", "(LNameNotes$Tape;LNameNotes$Studio;I)Z"⟩
abbrev cX5_readOne : ByteArray := prog_7_method_6_code
def yX5_readOne : MethodName := ⟨RX5, "readOne", "(LNameNotes$Tape;LNameNotes$Studio;I)Z"⟩
abbrev cX5_readNamed : ByteArray := prog_7_method_7_code
def yX5_readNamed : MethodName := ⟨RX5, "readNamed", "(LNameNotes$Tape;LNameNotes$Studio;I)Z"⟩
abbrev cX5_readMeasured : ByteArray := prog_7_method_8_code
def yX5_readMeasured : MethodName := ⟨RX5, "readMeasured", "(LNameNotes$Tape;I)Z"⟩
abbrev cX5_kindOf : ByteArray := prog_7_method_9_code
def yX5_kindOf : MethodName := ⟨RX5, "kindOf", "(LNameNotes$Tape;)I"⟩
abbrev cX5_addStep : ByteArray := prog_7_method_10_code
def yX5_addStep : MethodName := ⟨RX5, "addStep", "(II)V"⟩
abbrev cX5_holding : ByteArray := prog_7_method_11_code
def yX5_holding : MethodName := ⟨RX5, "holding", "(LNameNotes$Studio;)I"⟩
abbrev cX5_oneSet : ByteArray := prog_7_method_12_code
def yX5_oneSet : MethodName := ⟨RX5, "oneSet", "(LNameNotes$Studio;II)I"⟩
abbrev cX5_holdsMeasure : ByteArray := prog_7_method_13_code
def yX5_holdsMeasure : MethodName := ⟨RX5, "holdsMeasure", "(LNameNotes$Studio;III)Z"⟩
def RX6 : String := "NameNotes$Studio"
def TX6 : u_T := fun k => match k with
  | 0 => ("NameNotes$Studio", "pitches", "[I", true)
  | 1 => ("NameNotes$Studio", "beats", "[I", true)
  | 2 => ("NameNotes$Studio", "sizes", "[I", true)
  | 3 => ("NameNotes$Studio", "shared", "[I", true)
  | 4 => ("NameNotes$Studio", "left", "[I", true)
  | 5 => ("NameNotes$Studio", "ninths", "[I", true)
  | 6 => ("NameNotes$Studio", "daring", "[I", true)
  | 7 => ("NameNotes$Studio", "tuneNames", "[J", true)
  | 8 => ("NameNotes$Studio", "clueNames", "[J", true)
  | 9 => ("NameNotes$Studio", "personNames", "[J", true)
  | 10 => ("NameNotes$Studio", "sentence", "LNameNotes$Sentence;", true)
  | 11 => ("NameNotes$Studio", "tunes", "I", false)
  | 12 => ("NameNotes$Studio", "clues", "I", false)
  | 13 => ("NameNotes$Studio", "persons", "I", false)
  | 14 => ("NameNotes$Studio", "from", "I", false)
  | 15 => ("NameNotes$Studio", "serial", "I", false)
  | _ => ("NameNotes$Studio", "kept", "Z", false)
def tyX6 : Nat → FieldType := fun k => match k with
  | 0 => .array .int
  | 1 => .array .int
  | 2 => .array .int
  | 3 => .array .int
  | 4 => .array .int
  | 5 => .array .int
  | 6 => .array .int
  | 7 => .array .long
  | 8 => .array .long
  | 9 => .array .long
  | 10 => .object "NameNotes$Sentence"
  | 11 => .int
  | 12 => .int
  | 13 => .int
  | 14 => .int
  | 15 => .int
  | _ => .boolean
abbrev wsX60 : List Cond := u_ws RX6 TX6 17
theorem nmX6 : ∀ a, a < 17 → ∀ b, b < 17 → a ≠ b → (TX6 a).2.1 ≠ (TX6 b).2.1 := by decide +kernel
theorem tyX6_ok : ∀ k, k < 17 → parseFieldDescriptor (TX6 k).2.2.1 = some (tyX6 k) := by decide +kernel
abbrev cX6_init : ByteArray := prog_8_method_1_code
def yX6_init : MethodName := ⟨RX6, "<init>", "()V"⟩
abbrev cX6_clear : ByteArray := prog_8_method_2_code
def yX6_clear : MethodName := ⟨RX6, "clear", "()V"⟩
abbrev cX6_copy : ByteArray := prog_8_method_3_code
def yX6_copy : MethodName := ⟨RX6, "copy", "(LNameNotes$Studio;)V"⟩
abbrev cX6_isTune : ByteArray := prog_8_method_4_code
def yX6_isTune : MethodName := ⟨RX6, "isTune", "(I)Z"⟩
abbrev cX6_isClue : ByteArray := prog_8_method_5_code
def yX6_isClue : MethodName := ⟨RX6, "isClue", "(I)Z"⟩
abbrev cX6_isPerson : ByteArray := prog_8_method_6_code
def yX6_isPerson : MethodName := ⟨RX6, "isPerson", "(I)Z"⟩
abbrev cX6_isChoice : ByteArray := prog_8_method_7_code
def yX6_isChoice : MethodName := ⟨RX6, "isChoice", "(I)Z"⟩
abbrev cX6_setOf : ByteArray := prog_8_method_8_code
def yX6_setOf : MethodName := ⟨RX6, "setOf", "(I)I"⟩
abbrev cX6_allTunes : ByteArray := prog_8_method_9_code
def yX6_allTunes : MethodName := ⟨RX6, "allTunes", "()I"⟩
abbrev cX6_hasNote : ByteArray := prog_8_method_10_code
def yX6_hasNote : MethodName := ⟨RX6, "hasNote", "(II)Z"⟩
abbrev cX6_pitch : ByteArray := prog_8_method_11_code
def yX6_pitch : MethodName := ⟨RX6, "pitch", "(II)I"⟩
abbrev cX6_beat : ByteArray := prog_8_method_12_code
def yX6_beat : MethodName := ⟨RX6, "beat", "(II)I"⟩
abbrev cX6_ninth : ByteArray := prog_8_method_13_code
def yX6_ninth : MethodName := ⟨RX6, "ninth", "(II)I"⟩
abbrev cX6_setNinth : ByteArray := prog_8_method_14_code
def yX6_setNinth : MethodName := ⟨RX6, "setNinth", "(III)V"⟩
abbrev cX6_measure : ByteArray := prog_8_method_15_code
def yX6_measure : MethodName := ⟨RX6, "measure", "(II)I"⟩
abbrev cX6_timesOf : ByteArray := prog_8_method_16_code
def yX6_timesOf : MethodName := ⟨RX6, "timesOf", "(I)I"⟩
abbrev cX6_sameNote : ByteArray := prog_8_method_17_code
def yX6_sameNote : MethodName := ⟨RX6, "sameNote", "(IIII)Z"⟩
abbrev cX6_isOneNote : ByteArray := prog_8_method_18_code
def yX6_isOneNote : MethodName := ⟨RX6, "isOneNote", "(IIII)Z"⟩
abbrev cX6_compareAll : ByteArray := prog_8_method_19_code
def yX6_compareAll : MethodName := ⟨RX6, "compareAll", "()V"⟩
abbrev cX6_countShared : ByteArray := prog_8_method_20_code
def yX6_countShared : MethodName := ⟨RX6, "countShared", "(III)I"⟩
abbrev cX6_pair : ByteArray := prog_8_method_21_code
def yX6_pair : MethodName := ⟨RX6, "pair", "(III)I"⟩
abbrev cX6_sharedNotes : ByteArray := prog_8_method_22_code
def yX6_sharedNotes : MethodName := ⟨RX6, "sharedNotes", "(III)I"⟩
abbrev cX6_likes : ByteArray := prog_8_method_23_code
def yX6_likes : MethodName := ⟨RX6, "likes", "(IIII)I"⟩
abbrev cX6_fewestNotes : ByteArray := prog_8_method_24_code
def yX6_fewestNotes : MethodName := ⟨RX6, "fewestNotes", "(III)I"⟩
def RX7 : String := "NameNotes$StudioReader"
def TX7 : u_T := fun k => match k with
  | 0 => ("NameNotes$StudioReader", "tape", "LNameNotes$Tape;", true)
  | 1 => ("NameNotes$StudioReader", "fresh", "LNameNotes$Studio;", true)
  | 2 => ("NameNotes$StudioReader", "knowsTold", "[I", true)
  | 3 => ("NameNotes$StudioReader", "daresTold", "I", false)
  | 4 => ("NameNotes$StudioReader", "fromTold", "Z", false)
  | _ => ("NameNotes$StudioReader", "lines", "I", false)
def tyX7 : Nat → FieldType := fun k => match k with
  | 0 => .object "NameNotes$Tape"
  | 1 => .object "NameNotes$Studio"
  | 2 => .array .int
  | 3 => .int
  | 4 => .boolean
  | _ => .int
abbrev wsX70 : List Cond := u_ws RX7 TX7 6
theorem nmX7 : ∀ a, a < 6 → ∀ b, b < 6 → a ≠ b → (TX7 a).2.1 ≠ (TX7 b).2.1 := by decide +kernel
theorem tyX7_ok : ∀ k, k < 6 → parseFieldDescriptor (TX7 k).2.2.1 = some (tyX7 k) := by decide +kernel
abbrev cX7_init : ByteArray := prog_9_method_1_code
def yX7_init : MethodName := ⟨RX7, "<init>", "(LNameNotes$Tape;)V"⟩
abbrev cX7_read : ByteArray := prog_9_method_2_code
def yX7_read : MethodName := ⟨RX7, "read", "()Z"⟩
abbrev cX7_readLine : ByteArray := prog_9_method_3_code
def yX7_readLine : MethodName := ⟨RX7, "readLine", "()Z"⟩
abbrev cX7_readTune : ByteArray := prog_9_method_4_code
def yX7_readTune : MethodName := ⟨RX7, "readTune", "()Z"⟩
abbrev cX7_readNote : ByteArray := prog_9_method_5_code
def yX7_readNote : MethodName := ⟨RX7, "readNote", "(I)Z"⟩
abbrev cX7_readClue : ByteArray := prog_9_method_6_code
def yX7_readClue : MethodName := ⟨RX7, "readClue", "()Z"⟩
abbrev cX7_readLeft : ByteArray := prog_9_method_7_code
def yX7_readLeft : MethodName := ⟨RX7, "readLeft", "(I)Z"⟩
abbrev cX7_readPerson : ByteArray := prog_9_method_8_code
def yX7_readPerson : MethodName := ⟨RX7, "readPerson", "()Z"⟩
abbrev cX7_readKnows : ByteArray := prog_9_method_9_code
def yX7_readKnows : MethodName := ⟨RX7, "readKnows", "()Z"⟩
abbrev cX7_readDare : ByteArray := prog_9_method_10_code
def yX7_readDare : MethodName := ⟨RX7, "readDare", "()Z"⟩
abbrev cX7_readFrom : ByteArray := prog_9_method_11_code
def yX7_readFrom : MethodName := ⟨RX7, "readFrom", "()Z"⟩
abbrev cX7_isNewName : ByteArray := prog_9_method_12_code
def yX7_isNewName : MethodName := ⟨RX7, "isNewName", "()Z"⟩
abbrev cX7_isIn : ByteArray := prog_9_method_13_code
def yX7_isIn : MethodName := ⟨RX7, "isIn", "([JI)Z"⟩
def RX8 : String := "NameNotes$Tape"
def TX8 : u_T := fun k => match k with
  | 0 => ("NameNotes$Tape", "bytes", "[B", true)
  | 1 => ("NameNotes$Tape", "size", "I", false)
  | 2 => ("NameNotes$Tape", "most", "I", false)
  | 3 => ("NameNotes$Tape", "next", "I", false)
  | 4 => ("NameNotes$Tape", "place", "I", false)
  | 5 => ("NameNotes$Tape", "kind", "I", false)
  | 6 => ("NameNotes$Tape", "word", "J", false)
  | 7 => ("NameNotes$Tape", "keyword", "LNameNotes$Word;", false)
  | 8 => ("NameNotes$Tape", "number", "I", false)
  | 9 => ("NameNotes$Tape", "faultKind", "I", false)
  | _ => ("NameNotes$Tape", "faultPlace", "I", false)
def tyX8 : Nat → FieldType := fun k => match k with
  | 0 => .array .byte
  | 1 => .int
  | 2 => .int
  | 3 => .int
  | 4 => .int
  | 5 => .int
  | 6 => .long
  | 7 => .object "NameNotes$Word"
  | 8 => .int
  | 9 => .int
  | _ => .int
abbrev wsX80 : List Cond := u_ws RX8 TX8 11
theorem nmX8 : ∀ a, a < 11 → ∀ b, b < 11 → a ≠ b → (TX8 a).2.1 ≠ (TX8 b).2.1 := by decide +kernel
theorem tyX8_ok : ∀ k, k < 11 → parseFieldDescriptor (TX8 k).2.2.1 = some (tyX8 k) := by decide +kernel
abbrev cX8_init : ByteArray := prog_10_method_1_code
def yX8_init : MethodName := ⟨RX8, "<init>", "()V"⟩
abbrev cX8_hasRoom : ByteArray := prog_10_method_2_code
def yX8_hasRoom : MethodName := ⟨RX8, "hasRoom", "()Z"⟩
abbrev cX8_append : ByteArray := prog_10_method_3_code
def yX8_append : MethodName := ⟨RX8, "append", "(I)V"⟩
abbrev cX8_open : ByteArray := prog_10_method_4_code
def yX8_open : MethodName := ⟨RX8, "open", "(I)V"⟩
abbrev cX8_step : ByteArray := prog_10_method_5_code
def yX8_step : MethodName := ⟨RX8, "step", "()V"⟩
abbrev cX8_readRun : ByteArray := prog_10_method_6_code
def yX8_readRun : MethodName := ⟨RX8, "readRun", "()V"⟩
abbrev cX8_findKeyword : ByteArray := prog_10_method_7_code
def yX8_findKeyword : MethodName := ⟨RX8, "findKeyword", "()V"⟩
abbrev cX8_look : ByteArray := prog_10_method_8_code
def yX8_look : MethodName := ⟨RX8, "look", "(I)I"⟩
abbrev cX8_isName : ByteArray := prog_10_method_9_code
def yX8_isName : MethodName := ⟨RX8, "isName", "()Z"⟩
abbrev cX8_isWord : ByteArray := prog_10_method_10_code
def yX8_isWord : MethodName := ⟨RX8, "isWord", "(LNameNotes$Word;)Z"⟩
abbrev cX8_seek : ByteArray := prog_10_method_11_code
def yX8_seek : MethodName := ⟨RX8, "seek", "([JI)I"⟩
abbrev cX8_needNumber : ByteArray := prog_10_method_12_code
def yX8_needNumber : MethodName := ⟨RX8, "needNumber", "(II)Z"⟩
abbrev cX8_takeSign : ByteArray := prog_10_method_13_code
def yX8_takeSign : MethodName := ⟨RX8, "takeSign", "(I)Z"⟩
abbrev cX8_refuse : ByteArray := prog_10_method_14_code
def yX8_refuse : MethodName := ⟨RX8, "refuse", "(I)Z"⟩
abbrev cX8_withLetter : ByteArray := prog_10_method_15_code
def yX8_withLetter : MethodName := ⟨RX8, "withLetter", "(JI)J"⟩
abbrev cX8_isBlank : ByteArray := prog_10_method_16_code
def yX8_isBlank : MethodName := ⟨RX8, "isBlank", "(I)Z"⟩
abbrev cX8_isLetter : ByteArray := prog_10_method_17_code
def yX8_isLetter : MethodName := ⟨RX8, "isLetter", "(I)Z"⟩
abbrev cX8_isDigit : ByteArray := prog_10_method_18_code
def yX8_isDigit : MethodName := ⟨RX8, "isDigit", "(I)Z"⟩
abbrev cX8_isSign : ByteArray := prog_10_method_19_code
def yX8_isSign : MethodName := ⟨RX8, "isSign", "(I)Z"⟩
def RX9 : String := "NameNotes$Text"
def TX9 : u_T := fun k => match k with
  | 0 => ("NameNotes$Text", "signs", "[I", true)
  | _ => ("NameNotes$Text", "size", "I", false)
def tyX9 : Nat → FieldType := fun k => match k with
  | 0 => .array .int
  | _ => .int
abbrev wsX90 : List Cond := u_ws RX9 TX9 2
theorem nmX9 : ∀ a, a < 2 → ∀ b, b < 2 → a ≠ b → (TX9 a).2.1 ≠ (TX9 b).2.1 := by decide +kernel
theorem tyX9_ok : ∀ k, k < 2 → parseFieldDescriptor (TX9 k).2.2.1 = some (tyX9 k) := by decide +kernel
abbrev cX9_init : ByteArray := prog_11_method_1_code
def yX9_init : MethodName := ⟨RX9, "<init>", "()V"⟩
abbrev cX9_clear : ByteArray := prog_11_method_2_code
def yX9_clear : MethodName := ⟨RX9, "clear", "()V"⟩
abbrev cX9_addSign : ByteArray := prog_11_method_3_code
def yX9_addSign : MethodName := ⟨RX9, "addSign", "(I)V"⟩
abbrev cX9_addWord : ByteArray := prog_11_method_4_code
def yX9_addWord : MethodName := ⟨RX9, "addWord", "(Ljava/lang/String;)V"⟩
abbrev cX9_addName : ByteArray := prog_11_method_5_code
def yX9_addName : MethodName := ⟨RX9, "addName", "(J)V"⟩
abbrev cX9_addNumber : ByteArray := prog_11_method_6_code
def yX9_addNumber : MethodName := ⟨RX9, "addNumber", "(I)V"⟩
def RX10 : String := "NameNotes$Word"
def TX10 : u_T := fun k => match k with
  | _ => ("", "", "", false)
def tyX10 : Nat → FieldType := fun k => match k with
  | _ => .int
abbrev wsX100 : List Cond := u_ws RX10 TX10 0
theorem nmX10 : ∀ a, a < 0 → ∀ b, b < 0 → a ≠ b → (TX10 a).2.1 ≠ (TX10 b).2.1 := by decide +kernel
theorem tyX10_ok : ∀ k, k < 0 → parseFieldDescriptor (TX10 k).2.2.1 = some (tyX10 k) := by decide +kernel
def RX11 : String := "NameNotes"
def TX11 : u_T := fun k => match k with
  | 0 => ("NameNotes", "tape", "LNameNotes$Tape;", true)
  | 1 => ("NameNotes", "now", "LNameNotes$Studio;", true)
  | 2 => ("NameNotes", "firstImage", "LNameNotes$Studio;", true)
  | 3 => ("NameNotes", "secondImage", "LNameNotes$Studio;", true)
  | 4 => ("NameNotes", "reader", "LNameNotes$StudioReader;", true)
  | 5 => ("NameNotes", "draft", "LNameNotes$Sentence;", true)
  | 6 => ("NameNotes", "latest", "LNameNotes$Evening;", true)
  | 7 => ("NameNotes", "ear", "LNameNotes$Ear;", true)
  | 8 => ("NameNotes", "duel", "LNameNotes$Duel;", true)
  | 9 => ("NameNotes", "party", "LNameNotes$Night;", true)
  | 10 => ("NameNotes", "journal", "LNameNotes$Journal;", true)
  | 11 => ("NameNotes", "text", "LNameNotes$Text;", true)
  | 12 => ("NameNotes", "grid", "[I", true)
  | 13 => ("NameNotes", "scores", "[I", true)
  | 14 => ("NameNotes", "daring", "[I", true)
  | 15 => ("NameNotes", "lastNight", "[I", true)
  | 16 => ("NameNotes", "nightSpent", "Z", false)
  | _ => ("NameNotes", "studios", "I", false)
def tyX11 : Nat → FieldType := fun k => match k with
  | 0 => .object "NameNotes$Tape"
  | 1 => .object "NameNotes$Studio"
  | 2 => .object "NameNotes$Studio"
  | 3 => .object "NameNotes$Studio"
  | 4 => .object "NameNotes$StudioReader"
  | 5 => .object "NameNotes$Sentence"
  | 6 => .object "NameNotes$Evening"
  | 7 => .object "NameNotes$Ear"
  | 8 => .object "NameNotes$Duel"
  | 9 => .object "NameNotes$Night"
  | 10 => .object "NameNotes$Journal"
  | 11 => .object "NameNotes$Text"
  | 12 => .array .int
  | 13 => .array .int
  | 14 => .array .int
  | 15 => .array .int
  | 16 => .boolean
  | _ => .int
abbrev wsX110 : List Cond := u_ws RX11 TX11 18
theorem nmX11 : ∀ a, a < 18 → ∀ b, b < 18 → a ≠ b → (TX11 a).2.1 ≠ (TX11 b).2.1 := by decide +kernel
theorem tyX11_ok : ∀ k, k < 18 → parseFieldDescriptor (TX11 k).2.2.1 = some (tyX11 k) := by decide +kernel
abbrev cX11_init : ByteArray := prog_1_method_1_code
def yX11_init : MethodName := ⟨RX11, "<init>", "()V"⟩
abbrev cX11_feed : ByteArray := prog_1_method_2_code
def yX11_feed : MethodName := ⟨RX11, "feed", "(IIIII)I"⟩
abbrev cX11_end : ByteArray := prog_1_method_3_code
def yX11_end : MethodName := ⟨RX11, "end", "(I)Z"⟩
abbrev cX11_studio : ByteArray := prog_1_method_4_code
def yX11_studio : MethodName := ⟨RX11, "studio", "()I"⟩
abbrev cX11_fault : ByteArray := prog_1_method_5_code
def yX11_fault : MethodName := ⟨RX11, "fault", "()I"⟩
abbrev cX11_note : ByteArray := prog_1_method_6_code
def yX11_note : MethodName := ⟨RX11, "note", "(III)I"⟩
abbrev cX11_tune : ByteArray := prog_1_method_7_code
def yX11_tune : MethodName := ⟨RX11, "tune", "(II)I"⟩
abbrev cX11_when : ByteArray := prog_1_method_8_code
def yX11_when : MethodName := ⟨RX11, "when", "(II)I"⟩
abbrev cX11_clue : ByteArray := prog_1_method_9_code
def yX11_clue : MethodName := ⟨RX11, "clue", "(I)I"⟩
abbrev cX11_knows : ByteArray := prog_1_method_10_code
def yX11_knows : MethodName := ⟨RX11, "knows", "(II)I"⟩
abbrev cX11_dare : ByteArray := prog_1_method_11_code
def yX11_dare : MethodName := ⟨RX11, "dare", "(I)I"⟩
abbrev cX11_begins : ByteArray := prog_1_method_12_code
def yX11_begins : MethodName := ⟨RX11, "begins", "(IIII)I"⟩
abbrev cX11_parts : ByteArray := prog_1_method_13_code
def yX11_parts : MethodName := ⟨RX11, "parts", "(III)I"⟩
abbrev cX11_enough : ByteArray := prog_1_method_14_code
def yX11_enough : MethodName := ⟨RX11, "enough", "(III)I"⟩
abbrev cX11_named : ByteArray := prog_1_method_15_code
def yX11_named : MethodName := ⟨RX11, "named", "(IIIII)J"⟩
abbrev cX11_odds : ByteArray := prog_1_method_16_code
def yX11_odds : MethodName := ⟨RX11, "odds", "(IIII)J"⟩
abbrev cX11_needs : ByteArray := prog_1_method_17_code
def yX11_needs : MethodName := ⟨RX11, "needs", "(III)I"⟩
abbrev cX11_best : ByteArray := prog_1_method_18_code
def yX11_best : MethodName := ⟨RX11, "best", "(IIII)I"⟩
abbrev cX11_worth : ByteArray := prog_1_method_19_code
def yX11_worth : MethodName := ⟨RX11, "worth", "(IIIII)J"⟩
abbrev cX11_reply : ByteArray := prog_1_method_20_code
def yX11_reply : MethodName := ⟨RX11, "reply", "(IIII)I"⟩
abbrev cX11_gains : ByteArray := prog_1_method_21_code
def yX11_gains : MethodName := ⟨RX11, "gains", "(IIIII)J"⟩
abbrev cX11_fair : ByteArray := prog_1_method_22_code
def yX11_fair : MethodName := ⟨RX11, "fair", "(III)I"⟩
abbrev cX11_held : ByteArray := prog_1_method_23_code
def yX11_held : MethodName := ⟨RX11, "held", "(IIIIII)J"⟩
abbrev cX11_among : ByteArray := prog_1_method_24_code
def yX11_among : MethodName := ⟨RX11, "among", "(IIII)J"⟩
abbrev cX11_low : ByteArray := prog_1_method_25_code
def yX11_low : MethodName := ⟨RX11, "low", "(III)I"⟩
abbrev cX11_lowest : ByteArray := prog_1_method_26_code
def yX11_lowest : MethodName := ⟨RX11, "lowest", "(II)I"⟩
abbrev cX11_closest : ByteArray := prog_1_method_27_code
def yX11_closest : MethodName := ⟨RX11, "closest", "(II)I"⟩
abbrev cX11_play : ByteArray := prog_1_method_28_code
def yX11_play : MethodName := ⟨RX11, "play", "(III)I"⟩
abbrev cX11_ablest : ByteArray := prog_1_method_29_code
def yX11_ablest : MethodName := ⟨RX11, "ablest", "(II)I"⟩
abbrev cX11_hardest : ByteArray := prog_1_method_30_code
def yX11_hardest : MethodName := ⟨RX11, "hardest", "(II)I"⟩
abbrev cX11_learn : ByteArray := prog_1_method_31_code
def yX11_learn : MethodName := ⟨RX11, "learn", "(IIII)I"⟩
abbrev cX11_teach : ByteArray := prog_1_method_32_code
def yX11_teach : MethodName := ⟨RX11, "teach", "(III)Z"⟩
abbrev cX11_dares : ByteArray := prog_1_method_33_code
def yX11_dares : MethodName := ⟨RX11, "dares", "(II)Z"⟩
abbrev cX11_undo : ByteArray := prog_1_method_34_code
def yX11_undo : MethodName := ⟨RX11, "undo", "()I"⟩
abbrev cX11_match : ByteArray := prog_1_method_35_code
def yX11_match : MethodName := ⟨RX11, "match", "(IIII)J"⟩
abbrev cX11_bold : ByteArray := prog_1_method_36_code
def yX11_bold : MethodName := ⟨RX11, "bold", "(IIII)I"⟩
abbrev cX11_bolder : ByteArray := prog_1_method_37_code
def yX11_bolder : MethodName := ⟨RX11, "bolder", "(IIIII)J"⟩
abbrev cX11_lessons : ByteArray := prog_1_method_38_code
def yX11_lessons : MethodName := ⟨RX11, "lessons", "(IIII)I"⟩
abbrev cX11_copies : ByteArray := prog_1_method_39_code
def yX11_copies : MethodName := ⟨RX11, "copies", "(II)I"⟩
abbrev cX11_twins : ByteArray := prog_1_method_40_code
def yX11_twins : MethodName := ⟨RX11, "twins", "(IIII)I"⟩
abbrev cX11_alike : ByteArray := prog_1_method_41_code
def yX11_alike : MethodName := ⟨RX11, "alike", "(III)I"⟩
abbrev cX11_apart : ByteArray := prog_1_method_42_code
def yX11_apart : MethodName := ⟨RX11, "apart", "(II)I"⟩
abbrev cX11_nearest : ByteArray := prog_1_method_43_code
def yX11_nearest : MethodName := ⟨RX11, "nearest", "(II)I"⟩
abbrev cX11_rank : ByteArray := prog_1_method_44_code
def yX11_rank : MethodName := ⟨RX11, "rank", "(II)I"⟩
abbrev cX11_commonest : ByteArray := prog_1_method_45_code
def yX11_commonest : MethodName := ⟨RX11, "commonest", "()I"⟩
abbrev cX11_cover : ByteArray := prog_1_method_46_code
def yX11_cover : MethodName := ⟨RX11, "cover", "()I"⟩
abbrev cX11_evening : ByteArray := prog_1_method_47_code
def yX11_evening : MethodName := ⟨RX11, "evening", "()I"⟩
abbrev cX11_heard : ByteArray := prog_1_method_48_code
def yX11_heard : MethodName := ⟨RX11, "heard", "(I)I"⟩
abbrev cX11_told : ByteArray := prog_1_method_49_code
def yX11_told : MethodName := ⟨RX11, "told", "(I)J"⟩
abbrev cX11_night : ByteArray := prog_1_method_50_code
def yX11_night : MethodName := ⟨RX11, "night", "(III)I"⟩
abbrev cX11_nightly : ByteArray := prog_1_method_51_code
def yX11_nightly : MethodName := ⟨RX11, "nightly", "(I)I"⟩
abbrev cX11_nights : ByteArray := prog_1_method_52_code
def yX11_nights : MethodName := ⟨RX11, "nights", "(IIII)I"⟩
abbrev cX11_write : ByteArray := prog_1_method_53_code
def yX11_write : MethodName := ⟨RX11, "write", "(I)I"⟩
abbrev cX11_byteAt : ByteArray := prog_1_method_54_code
def yX11_byteAt : MethodName := ⟨RX11, "byteAt", "(I)I"⟩
abbrev cX11_sentence : ByteArray := prog_1_method_55_code
def yX11_sentence : MethodName := ⟨RX11, "sentence", "()I"⟩
abbrev cX11_said : ByteArray := prog_1_method_56_code
def yX11_said : MethodName := ⟨RX11, "said", "(I)I"⟩
abbrev cX11_image : ByteArray := prog_1_method_57_code
def yX11_image : MethodName := ⟨RX11, "image", "(I)Z"⟩
abbrev cX11_restore : ByteArray := prog_1_method_58_code
def yX11_restore : MethodName := ⟨RX11, "restore", "(I)Z"⟩
abbrev cX11_count : ByteArray := prog_1_method_59_code
def yX11_count : MethodName := ⟨RX11, "count", "(I)I"⟩
abbrev cX11_imageAt : ByteArray := prog_1_method_60_code
def yX11_imageAt : MethodName := ⟨RX11, "imageAt", "(I)LNameNotes$Studio;"⟩
abbrev cX11_canName : ByteArray := prog_1_method_61_code
def yX11_canName : MethodName := ⟨RX11, "canName", "(IIII)Z"⟩
abbrev cX11_canBid : ByteArray := prog_1_method_62_code
def yX11_canBid : MethodName := ⟨RX11, "canBid", "(IIII)Z"⟩
abbrev cX11_canSpendNight : ByteArray := prog_1_method_63_code
def yX11_canSpendNight : MethodName := ⟨RX11, "canSpendNight", "(II)Z"⟩
abbrev cX11_rightChance : ByteArray := prog_1_method_64_code
def yX11_rightChance : MethodName := ⟨RX11, "rightChance", "(IIII)J"⟩
abbrev cX11_chanceOf : ByteArray := prog_1_method_65_code
def yX11_chanceOf : MethodName := ⟨RX11, "chanceOf", "(III)J"⟩
abbrev cX11_weigh : ByteArray := prog_1_method_66_code
def yX11_weigh : MethodName := ⟨RX11, "weigh", "(III)V"⟩
abbrev cX11_counter : ByteArray := prog_1_method_67_code
def yX11_counter : MethodName := ⟨RX11, "counter", "(III)V"⟩
abbrev cX11_addSpeaker : ByteArray := prog_1_method_68_code
def yX11_addSpeaker : MethodName := ⟨RX11, "addSpeaker", "(I)V"⟩
abbrev cX11_scoreAll : ByteArray := prog_1_method_69_code
def yX11_scoreAll : MethodName := ⟨RX11, "scoreAll", "(IIZ)V"⟩
abbrev cX11_scored : ByteArray := prog_1_method_70_code
def yX11_scored : MethodName := ⟨RX11, "scored", "(II)I"⟩
abbrev cX11_distance : ByteArray := prog_1_method_71_code
def yX11_distance : MethodName := ⟨RX11, "distance", "(II)I"⟩
abbrev cX11_isBid : ByteArray := prog_1_method_72_code
def yX11_isBid : MethodName := ⟨RX11, "isBid", "(I)Z"⟩
abbrev cX11_isHow : ByteArray := prog_1_method_73_code
def yX11_isHow : MethodName := ⟨RX11, "isHow", "(I)Z"⟩
abbrev cX11_isMeasure : ByteArray := prog_1_method_74_code
def yX11_isMeasure : MethodName := ⟨RX11, "isMeasure", "(I)Z"⟩
abbrev cX11_isNinth : ByteArray := prog_1_method_75_code
def yX11_isNinth : MethodName := ⟨RX11, "isNinth", "(I)Z"⟩
abbrev cX11_isScore : ByteArray := prog_1_method_76_code
def yX11_isScore : MethodName := ⟨RX11, "isScore", "(I)Z"⟩
abbrev cX11_isPart : ByteArray := prog_1_method_77_code
def yX11_isPart : MethodName := ⟨RX11, "isPart", "(I)Z"⟩
abbrev cX11_reaches : ByteArray := prog_1_method_78_code
def yX11_reaches : MethodName := ⟨RX11, "reaches", "(JI)Z"⟩
abbrev cX11_part : ByteArray := prog_1_method_79_code
def yX11_part : MethodName := ⟨RX11, "part", "(JJI)J"⟩
abbrev cX11_has : ByteArray := prog_1_method_80_code
def yX11_has : MethodName := ⟨RX11, "has", "(II)Z"⟩
abbrev cX11_isLeast : ByteArray := prog_1_method_81_code
def yX11_isLeast : MethodName := ⟨RX11, "isLeast", "(II)Z"⟩
abbrev cX11_isFewer : ByteArray := prog_1_method_82_code
def yX11_isFewer : MethodName := ⟨RX11, "isFewer", "(II)Z"⟩
abbrev cX11_nth : ByteArray := prog_1_method_83_code
def yX11_nth : MethodName := ⟨RX11, "nth", "(II)I"⟩
abbrev cX11_at : ByteArray := prog_1_method_84_code
def yX11_at : MethodName := ⟨RX11, "at", "([II)I"⟩
abbrev cX11_at_ : ByteArray := prog_1_method_85_code
def yX11_at_ : MethodName := ⟨RX11, "at", "([JI)J"⟩
abbrev cX11_put : ByteArray := prog_1_method_86_code
def yX11_put : MethodName := ⟨RX11, "put", "([III)V"⟩
abbrev cX11_put_ : ByteArray := prog_1_method_87_code
def yX11_put_ : MethodName := ⟨RX11, "put", "([JIJ)V"⟩
abbrev cX11_copyRow : ByteArray := prog_1_method_88_code
def yX11_copyRow : MethodName := ⟨RX11, "copyRow", "([I[I)V"⟩
abbrev cX11_copyRow_ : ByteArray := prog_1_method_89_code
def yX11_copyRow_ : MethodName := ⟨RX11, "copyRow", "([J[J)V"⟩
abbrev cX11_fillRow : ByteArray := prog_1_method_90_code
def yX11_fillRow : MethodName := ⟨RX11, "fillRow", "([II)V"⟩
def RX12 : String := "NameNotesModel"
def TX12 : u_T := fun k => match k with
  | 0 => ("NameNotesModel", "thrown", "I", false)
  | 1 => ("NameNotesModel", "tape", "[I", true)
  | 2 => ("NameNotesModel", "taped", "I", false)
  | 3 => ("NameNotesModel", "size", "I", false)
  | 4 => ("NameNotesModel", "limit", "I", false)
  | 5 => ("NameNotesModel", "to", "I", false)
  | 6 => ("NameNotesModel", "from", "I", false)
  | 7 => ("NameNotesModel", "kind", "I", false)
  | 8 => ("NameNotesModel", "number", "I", false)
  | 9 => ("NameNotesModel", "signed", "I", false)
  | 10 => ("NameNotesModel", "fault", "I", false)
  | 11 => ("NameNotesModel", "place", "I", false)
  | 12 => ("NameNotesModel", "word", "J", false)
  | 13 => ("NameNotesModel", "told", "I", false)
  | 14 => ("NameNotesModel", "now", "[I", true)
  | 15 => ("NameNotesModel", "read", "[I", true)
  | 16 => ("NameNotesModel", "kept", "[I", true)
  | 17 => ("NameNotesModel", "snaps", "[I", true)
  | 18 => ("NameNotesModel", "name", "[J", true)
  | 19 => ("NameNotesModel", "readName", "[J", true)
  | 20 => ("NameNotesModel", "keptName", "[J", true)
  | 21 => ("NameNotesModel", "isKept", "[Z", true)
  | 22 => ("NameNotesModel", "isBegun", "Z", false)
  | 23 => ("NameNotesModel", "studios", "I", false)
  | 24 => ("NameNotesModel", "snapMany", "I", false)
  | 25 => ("NameNotesModel", "dareTold", "I", false)
  | 26 => ("NameNotesModel", "fromTold", "I", false)
  | 27 => ("NameNotesModel", "knowsTold", "[I", true)
  | 28 => ("NameNotesModel", "changes", "[I", true)
  | 29 => ("NameNotesModel", "changesNext", "[I", true)
  | 30 => ("NameNotesModel", "mind", "[I", true)
  | 31 => ("NameNotesModel", "others", "[J", true)
  | 32 => ("NameNotesModel", "oddsOfBoth", "[J", true)
  | 33 => ("NameNotesModel", "worth", "[J", true)
  | 34 => ("NameNotesModel", "gain", "[J", true)
  | 35 => ("NameNotesModel", "move", "[I", true)
  | 36 => ("NameNotesModel", "replyTo", "[I", true)
  | 37 => ("NameNotesModel", "text", "[I", true)
  | 38 => ("NameNotesModel", "letters", "[I", true)
  | 39 => ("NameNotesModel", "texted", "I", false)
  | 40 => ("NameNotesModel", "win", "[J", true)
  | 41 => ("NameNotesModel", "beBold", "[I", true)
  | 42 => ("NameNotesModel", "heard", "[I", true)
  | 43 => ("NameNotesModel", "lineMany", "I", false)
  | 44 => ("NameNotesModel", "why", "I", false)
  | 45 => ("NameNotesModel", "wrongLine", "I", false)
  | 46 => ("NameNotesModel", "bid", "I", false)
  | 47 => ("NameNotesModel", "bidder", "I", false)
  | 48 => ("NameNotesModel", "namer", "I", false)
  | 49 => ("NameNotesModel", "toSpeak", "I", false)
  | 50 => ("NameNotesModel", "spoke", "I", false)
  | 51 => ("NameNotesModel", "heardId", "I", false)
  | 52 => ("NameNotesModel", "heardClue", "I", false)
  | 53 => ("NameNotesModel", "clueNow", "I", false)
  | 54 => ("NameNotesModel", "seed", "I", false)
  | 55 => ("NameNotesModel", "minds", "[I", true)
  | 56 => ("NameNotesModel", "nightly", "[I", true)
  | 57 => ("NameNotesModel", "night", "[I", true)
  | 58 => ("NameNotesModel", "node", "[I", true)
  | 59 => ("NameNotesModel", "nodes", "I", false)
  | 60 => ("NameNotesModel", "onesMany", "I", false)
  | 61 => ("NameNotesModel", "within", "I", false)
  | _ => ("NameNotesModel", "top", "I", false)
def tyX12 : Nat → FieldType := fun k => match k with
  | 0 => .int
  | 1 => .array .int
  | 2 => .int
  | 3 => .int
  | 4 => .int
  | 5 => .int
  | 6 => .int
  | 7 => .int
  | 8 => .int
  | 9 => .int
  | 10 => .int
  | 11 => .int
  | 12 => .long
  | 13 => .int
  | 14 => .array .int
  | 15 => .array .int
  | 16 => .array .int
  | 17 => .array .int
  | 18 => .array .long
  | 19 => .array .long
  | 20 => .array .long
  | 21 => .array .boolean
  | 22 => .boolean
  | 23 => .int
  | 24 => .int
  | 25 => .int
  | 26 => .int
  | 27 => .array .int
  | 28 => .array .int
  | 29 => .array .int
  | 30 => .array .int
  | 31 => .array .long
  | 32 => .array .long
  | 33 => .array .long
  | 34 => .array .long
  | 35 => .array .int
  | 36 => .array .int
  | 37 => .array .int
  | 38 => .array .int
  | 39 => .int
  | 40 => .array .long
  | 41 => .array .int
  | 42 => .array .int
  | 43 => .int
  | 44 => .int
  | 45 => .int
  | 46 => .int
  | 47 => .int
  | 48 => .int
  | 49 => .int
  | 50 => .int
  | 51 => .int
  | 52 => .int
  | 53 => .int
  | 54 => .int
  | 55 => .array .int
  | 56 => .array .int
  | 57 => .array .int
  | 58 => .array .int
  | 59 => .int
  | 60 => .int
  | 61 => .int
  | _ => .int
abbrev wsX120 : List Cond := u_ws RX12 TX12 63
theorem nmX12 : ∀ a, a < 63 → ∀ b, b < 63 → a ≠ b → (TX12 a).2.1 ≠ (TX12 b).2.1 := by decide +kernel
theorem tyX12_ok : ∀ k, k < 63 → parseFieldDescriptor (TX12 k).2.2.1 = some (tyX12 k) := by decide +kernel
abbrev cX12_init : ByteArray := prog_14_method_1_code
def yX12_init : MethodName := ⟨RX12, "<init>", "()V"⟩
abbrev cX12_refuse : ByteArray := prog_14_method_3_code
def yX12_refuse : MethodName := ⟨RX12, "refuse", "()J"⟩
abbrev cX12_come : ByteArray := prog_14_method_4_code
def yX12_come : MethodName := ⟨RX12, "come", "(I)V"⟩
abbrev cX12_feed : ByteArray := prog_14_method_5_code
def yX12_feed : MethodName := ⟨RX12, "feed", "(IIIII)I"⟩
abbrev cX12_end : ByteArray := prog_14_method_6_code
def yX12_end : MethodName := ⟨RX12, "end", "(I)Z"⟩
abbrev cX12_take : ByteArray := prog_14_method_7_code
def yX12_take : MethodName := ⟨RX12, "take", "()I"⟩
abbrev cX12_isIn : ByteArray := prog_14_method_8_code
def yX12_isIn : MethodName := ⟨RX12, "isIn", "(III)Z"⟩
abbrev cX12_has : ByteArray := prog_14_method_9_code
def yX12_has : MethodName := ⟨RX12, "has", "(II)Z"⟩
abbrev cX12_bits : ByteArray := prog_14_method_10_code
def yX12_bits : MethodName := ⟨RX12, "bits", "(I)I"⟩
abbrev cX12_least : ByteArray := prog_14_method_11_code
def yX12_least : MethodName := ⟨RX12, "least", "(II)I"⟩
abbrev cX12_common : ByteArray := prog_14_method_12_code
def yX12_common : MethodName := ⟨RX12, "common", "(JJ)J"⟩
abbrev cX12_part : ByteArray := prog_14_method_13_code
def yX12_part : MethodName := ⟨RX12, "part", "(JJI)J"⟩
abbrev cX12_tapeAt : ByteArray := prog_14_method_14_code
def yX12_tapeAt : MethodName := ⟨RX12, "tapeAt", "(I)I"⟩
abbrev cX12_isDigit : ByteArray := prog_14_method_15_code
def yX12_isDigit : MethodName := ⟨RX12, "isDigit", "(I)Z"⟩
abbrev cX12_isLetter : ByteArray := prog_14_method_16_code
def yX12_isLetter : MethodName := ⟨RX12, "isLetter", "(I)Z"⟩
abbrev cX12_go : ByteArray := prog_14_method_17_code
def yX12_go : MethodName := ⟨RX12, "go", "()V"⟩
abbrev cX12_spelt : ByteArray := prog_14_method_18_code
def yX12_spelt : MethodName := ⟨RX12, "spelt", "(IIIIII)J"⟩
abbrev cX12_wordOf : ByteArray := prog_14_method_19_code
def yX12_wordOf : MethodName := ⟨RX12, "wordOf", "(I)J"⟩
abbrev cX12_isWord : ByteArray := prog_14_method_20_code
def yX12_isWord : MethodName := ⟨RX12, "isWord", "(I)Z"⟩
abbrev cX12_isSign : ByteArray := prog_14_method_21_code
def yX12_isSign : MethodName := ⟨RX12, "isSign", "(I)Z"⟩
abbrev cX12_isName : ByteArray := prog_14_method_22_code
def yX12_isName : MethodName := ⟨RX12, "isName", "()Z"⟩
abbrev cX12_bad : ByteArray := prog_14_method_23_code
def yX12_bad : MethodName := ⟨RX12, "bad", "(I)Z"⟩
abbrev cX12_isNumber : ByteArray := prog_14_method_24_code
def yX12_isNumber : MethodName := ⟨RX12, "isNumber", "(II)Z"⟩
abbrev cX12_readNumber : ByteArray := prog_14_method_25_code
def yX12_readNumber : MethodName := ⟨RX12, "readNumber", "(II)Z"⟩
abbrev cX12_readEnd : ByteArray := prog_14_method_26_code
def yX12_readEnd : MethodName := ⟨RX12, "readEnd", "()Z"⟩
abbrev cX12_begin : ByteArray := prog_14_method_27_code
def yX12_begin : MethodName := ⟨RX12, "begin", "(I)V"⟩
abbrev cX12_lay : ByteArray := prog_14_method_28_code
def yX12_lay : MethodName := ⟨RX12, "lay", "()V"⟩
abbrev cX12_findIn : ByteArray := prog_14_method_29_code
def yX12_findIn : MethodName := ⟨RX12, "findIn", "([JIIJ)I"⟩
abbrev cX12_readNew : ByteArray := prog_14_method_30_code
def yX12_readNew : MethodName := ⟨RX12, "readNew", "(I)Z"⟩
abbrev cX12_isOne : ByteArray := prog_14_method_31_code
def yX12_isOne : MethodName := ⟨RX12, "isOne", "(II)Z"⟩
abbrev cX12_readTune : ByteArray := prog_14_method_32_code
def yX12_readTune : MethodName := ⟨RX12, "readTune", "()Z"⟩
abbrev cX12_readClue : ByteArray := prog_14_method_33_code
def yX12_readClue : MethodName := ⟨RX12, "readClue", "()Z"⟩
abbrev cX12_readPerson : ByteArray := prog_14_method_34_code
def yX12_readPerson : MethodName := ⟨RX12, "readPerson", "()Z"⟩
abbrev cX12_readKnows : ByteArray := prog_14_method_35_code
def yX12_readKnows : MethodName := ⟨RX12, "readKnows", "()Z"⟩
abbrev cX12_readDare : ByteArray := prog_14_method_36_code
def yX12_readDare : MethodName := ⟨RX12, "readDare", "()Z"⟩
abbrev cX12_readFrom : ByteArray := prog_14_method_37_code
def yX12_readFrom : MethodName := ⟨RX12, "readFrom", "()Z"⟩
abbrev cX12_readLine : ByteArray := prog_14_method_38_code
def yX12_readLine : MethodName := ⟨RX12, "readLine", "()Z"⟩
abbrev cX12_studio : ByteArray := prog_14_method_39_code
def yX12_studio : MethodName := ⟨RX12, "studio", "()I"⟩
abbrev cX12_fault : ByteArray := prog_14_method_40_code
def yX12_fault : MethodName := ⟨RX12, "fault", "()I"⟩
abbrev cX12_tunes : ByteArray := prog_14_method_41_code
def yX12_tunes : MethodName := ⟨RX12, "tunes", "()I"⟩
abbrev cX12_isTune : ByteArray := prog_14_method_42_code
def yX12_isTune : MethodName := ⟨RX12, "isTune", "(I)Z"⟩
abbrev cX12_isClue : ByteArray := prog_14_method_43_code
def yX12_isClue : MethodName := ⟨RX12, "isClue", "(I)Z"⟩
abbrev cX12_isPerson : ByteArray := prog_14_method_44_code
def yX12_isPerson : MethodName := ⟨RX12, "isPerson", "(I)Z"⟩
abbrev cX12_notes : ByteArray := prog_14_method_45_code
def yX12_notes : MethodName := ⟨RX12, "notes", "(I)I"⟩
abbrev cX12_noteOf : ByteArray := prog_14_method_46_code
def yX12_noteOf : MethodName := ⟨RX12, "noteOf", "(III)I"⟩
abbrev cX12_left : ByteArray := prog_14_method_47_code
def yX12_left : MethodName := ⟨RX12, "left", "(I)I"⟩
abbrev cX12_isLeft : ByteArray := prog_14_method_48_code
def yX12_isLeft : MethodName := ⟨RX12, "isLeft", "(I)Z"⟩
abbrev cX12_note : ByteArray := prog_14_method_49_code
def yX12_note : MethodName := ⟨RX12, "note", "(III)I"⟩
abbrev cX12_tell : ByteArray := prog_14_method_50_code
def yX12_tell : MethodName := ⟨RX12, "tell", "(II)I"⟩
abbrev cX12_tune : ByteArray := prog_14_method_51_code
def yX12_tune : MethodName := ⟨RX12, "tune", "(II)I"⟩
abbrev cX12_when : ByteArray := prog_14_method_52_code
def yX12_when : MethodName := ⟨RX12, "when", "(II)I"⟩
abbrev cX12_clue : ByteArray := prog_14_method_53_code
def yX12_clue : MethodName := ⟨RX12, "clue", "(I)I"⟩
abbrev cX12_known : ByteArray := prog_14_method_54_code
def yX12_known : MethodName := ⟨RX12, "known", "(II)I"⟩
abbrev cX12_knows : ByteArray := prog_14_method_55_code
def yX12_knows : MethodName := ⟨RX12, "knows", "(II)I"⟩
abbrev cX12_dare : ByteArray := prog_14_method_56_code
def yX12_dare : MethodName := ⟨RX12, "dare", "(I)I"⟩
abbrev cX12_isLikeNote : ByteArray := prog_14_method_57_code
def yX12_isLikeNote : MethodName := ⟨RX12, "isLikeNote", "(IIII)Z"⟩
abbrev cX12_likeNotes : ByteArray := prog_14_method_58_code
def yX12_likeNotes : MethodName := ⟨RX12, "likeNotes", "(III)I"⟩
abbrev cX12_areLike : ByteArray := prog_14_method_59_code
def yX12_areLike : MethodName := ⟨RX12, "areLike", "(IIII)Z"⟩
abbrev cX12_likes : ByteArray := prog_14_method_60_code
def yX12_likes : MethodName := ⟨RX12, "likes", "(IIII)I"⟩
abbrev cX12_isHow : ByteArray := prog_14_method_61_code
def yX12_isHow : MethodName := ⟨RX12, "isHow", "(I)Z"⟩
abbrev cX12_begins : ByteArray := prog_14_method_62_code
def yX12_begins : MethodName := ⟨RX12, "begins", "(IIII)I"⟩
abbrev cX12_parts : ByteArray := prog_14_method_63_code
def yX12_parts : MethodName := ⟨RX12, "parts", "(III)I"⟩
abbrev cX12_enoughOf : ByteArray := prog_14_method_64_code
def yX12_enoughOf : MethodName := ⟨RX12, "enoughOf", "(III)I"⟩
abbrev cX12_enough : ByteArray := prog_14_method_65_code
def yX12_enough : MethodName := ⟨RX12, "enough", "(III)I"⟩
abbrev cX12_hardest : ByteArray := prog_14_method_66_code
def yX12_hardest : MethodName := ⟨RX12, "hardest", "(II)I"⟩
abbrev cX12_twins : ByteArray := prog_14_method_67_code
def yX12_twins : MethodName := ⟨RX12, "twins", "(IIII)I"⟩
abbrev cX12_alike : ByteArray := prog_14_method_68_code
def yX12_alike : MethodName := ⟨RX12, "alike", "(III)I"⟩
abbrev cX12_apartOf : ByteArray := prog_14_method_69_code
def yX12_apartOf : MethodName := ⟨RX12, "apartOf", "(II)I"⟩
abbrev cX12_isLikeNote2 : ByteArray := prog_14_method_70_code
def yX12_isLikeNote2 : MethodName := ⟨RX12, "isLikeNote2", "(IIII)Z"⟩
abbrev cX12_apart : ByteArray := prog_14_method_71_code
def yX12_apart : MethodName := ⟨RX12, "apart", "(II)I"⟩
abbrev cX12_nearest : ByteArray := prog_14_method_72_code
def yX12_nearest : MethodName := ⟨RX12, "nearest", "(II)I"⟩
abbrev cX12_rank : ByteArray := prog_14_method_73_code
def yX12_rank : MethodName := ⟨RX12, "rank", "(II)I"⟩
abbrev cX12_commonest : ByteArray := prog_14_method_74_code
def yX12_commonest : MethodName := ⟨RX12, "commonest", "()I"⟩
abbrev cX12_cover : ByteArray := prog_14_method_75_code
def yX12_cover : MethodName := ⟨RX12, "cover", "()I"⟩
abbrev cX12_layMind : ByteArray := prog_14_method_76_code
def yX12_layMind : MethodName := ⟨RX12, "layMind", "(I)V"⟩
abbrev cX12_namedBy : ByteArray := prog_14_method_77_code
def yX12_namedBy : MethodName := ⟨RX12, "namedBy", "(III)J"⟩
abbrev cX12_oddsBy : ByteArray := prog_14_method_78_code
def yX12_oddsBy : MethodName := ⟨RX12, "oddsBy", "(II)J"⟩
abbrev cX12_oddsOf : ByteArray := prog_14_method_79_code
def yX12_oddsOf : MethodName := ⟨RX12, "oddsOf", "(III)J"⟩
abbrev cX12_isHeard : ByteArray := prog_14_method_80_code
def yX12_isHeard : MethodName := ⟨RX12, "isHeard", "(III)Z"⟩
abbrev cX12_named : ByteArray := prog_14_method_81_code
def yX12_named : MethodName := ⟨RX12, "named", "(IIIII)J"⟩
abbrev cX12_odds : ByteArray := prog_14_method_82_code
def yX12_odds : MethodName := ⟨RX12, "odds", "(IIII)J"⟩
abbrev cX12_among : ByteArray := prog_14_method_83_code
def yX12_among : MethodName := ⟨RX12, "among", "(IIII)J"⟩
abbrev cX12_isNines : ByteArray := prog_14_method_84_code
def yX12_isNines : MethodName := ⟨RX12, "isNines", "(JI)Z"⟩
abbrev cX12_needs : ByteArray := prog_14_method_85_code
def yX12_needs : MethodName := ⟨RX12, "needs", "(III)I"⟩
abbrev cX12_ablest : ByteArray := prog_14_method_86_code
def yX12_ablest : MethodName := ⟨RX12, "ablest", "(II)I"⟩
abbrev cX12_held : ByteArray := prog_14_method_87_code
def yX12_held : MethodName := ⟨RX12, "held", "(IIIIII)J"⟩
abbrev cX12_oddsWith : ByteArray := prog_14_method_88_code
def yX12_oddsWith : MethodName := ⟨RX12, "oddsWith", "(IIII)J"⟩
abbrev cX12_learn : ByteArray := prog_14_method_89_code
def yX12_learn : MethodName := ⟨RX12, "learn", "(IIII)I"⟩
abbrev cX12_lessons : ByteArray := prog_14_method_90_code
def yX12_lessons : MethodName := ⟨RX12, "lessons", "(IIII)I"⟩
abbrev cX12_isRound : ByteArray := prog_14_method_91_code
def yX12_isRound : MethodName := ⟨RX12, "isRound", "(III)Z"⟩
abbrev cX12_layOdds : ByteArray := prog_14_method_92_code
def yX12_layOdds : MethodName := ⟨RX12, "layOdds", "(III)V"⟩
abbrev cX12_highest : ByteArray := prog_14_method_93_code
def yX12_highest : MethodName := ⟨RX12, "highest", "(I)I"⟩
abbrev cX12_layBest : ByteArray := prog_14_method_94_code
def yX12_layBest : MethodName := ⟨RX12, "layBest", "(III)V"⟩
abbrev cX12_isSpeech : ByteArray := prog_14_method_95_code
def yX12_isSpeech : MethodName := ⟨RX12, "isSpeech", "(IIII)Z"⟩
abbrev cX12_best : ByteArray := prog_14_method_96_code
def yX12_best : MethodName := ⟨RX12, "best", "(IIII)I"⟩
abbrev cX12_worth : ByteArray := prog_14_method_97_code
def yX12_worth : MethodName := ⟨RX12, "worth", "(IIIII)J"⟩
abbrev cX12_bidGains : ByteArray := prog_14_method_98_code
def yX12_bidGains : MethodName := ⟨RX12, "bidGains", "(II)J"⟩
abbrev cX12_layReplies : ByteArray := prog_14_method_99_code
def yX12_layReplies : MethodName := ⟨RX12, "layReplies", "(III)V"⟩
abbrev cX12_reply : ByteArray := prog_14_method_100_code
def yX12_reply : MethodName := ⟨RX12, "reply", "(IIII)I"⟩
abbrev cX12_gains : ByteArray := prog_14_method_101_code
def yX12_gains : MethodName := ⟨RX12, "gains", "(IIIII)J"⟩
abbrev cX12_fair : ByteArray := prog_14_method_102_code
def yX12_fair : MethodName := ⟨RX12, "fair", "(III)I"⟩
abbrev cX12_lowOf : ByteArray := prog_14_method_103_code
def yX12_lowOf : MethodName := ⟨RX12, "lowOf", "(III)I"⟩
abbrev cX12_low : ByteArray := prog_14_method_104_code
def yX12_low : MethodName := ⟨RX12, "low", "(III)I"⟩
abbrev cX12_lowest : ByteArray := prog_14_method_105_code
def yX12_lowest : MethodName := ⟨RX12, "lowest", "(II)I"⟩
abbrev cX12_closest : ByteArray := prog_14_method_106_code
def yX12_closest : MethodName := ⟨RX12, "closest", "(II)I"⟩
abbrev cX12_put : ByteArray := prog_14_method_107_code
def yX12_put : MethodName := ⟨RX12, "put", "(I)V"⟩
abbrev cX12_putName : ByteArray := prog_14_method_108_code
def yX12_putName : MethodName := ⟨RX12, "putName", "(J)V"⟩
abbrev cX12_play : ByteArray := prog_14_method_109_code
def yX12_play : MethodName := ⟨RX12, "play", "(III)I"⟩
abbrev cX12_write : ByteArray := prog_14_method_110_code
def yX12_write : MethodName := ⟨RX12, "write", "(I)I"⟩
abbrev cX12_byteAt : ByteArray := prog_14_method_111_code
def yX12_byteAt : MethodName := ⟨RX12, "byteAt", "(I)I"⟩
abbrev cX12_snap : ByteArray := prog_14_method_112_code
def yX12_snap : MethodName := ⟨RX12, "snap", "()V"⟩
abbrev cX12_undo : ByteArray := prog_14_method_113_code
def yX12_undo : MethodName := ⟨RX12, "undo", "()I"⟩
abbrev cX12_teach : ByteArray := prog_14_method_114_code
def yX12_teach : MethodName := ⟨RX12, "teach", "(III)Z"⟩
abbrev cX12_dares : ByteArray := prog_14_method_115_code
def yX12_dares : MethodName := ⟨RX12, "dares", "(II)Z"⟩
abbrev cX12_copies : ByteArray := prog_14_method_116_code
def yX12_copies : MethodName := ⟨RX12, "copies", "(II)I"⟩
abbrev cX12_at : ByteArray := prog_14_method_117_code
def yX12_at : MethodName := ⟨RX12, "at", "([JII)J"⟩
abbrev cX12_layWins : ByteArray := prog_14_method_118_code
def yX12_layWins : MethodName := ⟨RX12, "layWins", "(II)V"⟩
abbrev cX12_isScore : ByteArray := prog_14_method_119_code
def yX12_isScore : MethodName := ⟨RX12, "isScore", "(III)Z"⟩
abbrev cX12_match : ByteArray := prog_14_method_120_code
def yX12_match : MethodName := ⟨RX12, "match", "(IIII)J"⟩
abbrev cX12_bold : ByteArray := prog_14_method_121_code
def yX12_bold : MethodName := ⟨RX12, "bold", "(IIII)I"⟩
abbrev cX12_bolder : ByteArray := prog_14_method_122_code
def yX12_bolder : MethodName := ⟨RX12, "bolder", "(IIIII)J"⟩
abbrev cX12_whyNot : ByteArray := prog_14_method_123_code
def yX12_whyNot : MethodName := ⟨RX12, "whyNot", "(II)I"⟩
abbrev cX12_judgeLine : ByteArray := prog_14_method_124_code
def yX12_judgeLine : MethodName := ⟨RX12, "judgeLine", "(II)V"⟩
abbrev cX12_readBid : ByteArray := prog_14_method_125_code
def yX12_readBid : MethodName := ⟨RX12, "readBid", "()Z"⟩
abbrev cX12_readHeard : ByteArray := prog_14_method_126_code
def yX12_readHeard : MethodName := ⟨RX12, "readHeard", "()Z"⟩
abbrev cX12_evening : ByteArray := prog_14_method_127_code
def yX12_evening : MethodName := ⟨RX12, "evening", "()I"⟩
abbrev cX12_heard : ByteArray := prog_14_method_128_code
def yX12_heard : MethodName := ⟨RX12, "heard", "(I)I"⟩
abbrev cX12_told : ByteArray := prog_14_method_129_code
def yX12_told : MethodName := ⟨RX12, "told", "(I)J"⟩
abbrev cX12_draw : ByteArray := prog_14_method_130_code
def yX12_draw : MethodName := ⟨RX12, "draw", "(I)I"⟩
abbrev cX12_member : ByteArray := prog_14_method_131_code
def yX12_member : MethodName := ⟨RX12, "member", "(II)I"⟩
abbrev cX12_bids : ByteArray := prog_14_method_132_code
def yX12_bids : MethodName := ⟨RX12, "bids", "(IIIII)Z"⟩
abbrev cX12_round : ByteArray := prog_14_method_133_code
def yX12_round : MethodName := ⟨RX12, "round", "(III)I"⟩
abbrev cX12_nightBy : ByteArray := prog_14_method_134_code
def yX12_nightBy : MethodName := ⟨RX12, "nightBy", "(III)I"⟩
abbrev cX12_isNight : ByteArray := prog_14_method_135_code
def yX12_isNight : MethodName := ⟨RX12, "isNight", "(II)Z"⟩
abbrev cX12_night : ByteArray := prog_14_method_136_code
def yX12_night : MethodName := ⟨RX12, "night", "(III)I"⟩
abbrev cX12_nightly : ByteArray := prog_14_method_137_code
def yX12_nightly : MethodName := ⟨RX12, "nightly", "(I)I"⟩
abbrev cX12_nights : ByteArray := prog_14_method_138_code
def yX12_nights : MethodName := ⟨RX12, "nights", "(IIII)I"⟩
abbrev cX12_saysOne : ByteArray := prog_14_method_139_code
def yX12_saysOne : MethodName := ⟨RX12, "saysOne", "(IIII)I"⟩
abbrev cX12_readOr : ByteArray := prog_14_method_140_code
def yX12_readOr : MethodName := ⟨RX12, "readOr", "()Z"⟩
abbrev cX12_readAnd : ByteArray := prog_14_method_141_code
def yX12_readAnd : MethodName := ⟨RX12, "readAnd", "()Z"⟩
abbrev cX12_readOne : ByteArray := prog_14_method_142_code
def yX12_readOne : MethodName := ⟨RX12, "readOne", "()Z"⟩
abbrev cX12_readNot : ByteArray := prog_14_method_143_code
def yX12_readNot : MethodName := ⟨RX12, "readNot", "()Z"⟩
abbrev cX12_readBracket : ByteArray := prog_14_method_144_code
def yX12_readBracket : MethodName := ⟨RX12, "readBracket", "()Z"⟩
abbrev cX12_readOf : ByteArray := prog_14_method_145_code
def yX12_readOf : MethodName := ⟨RX12, "readOf", "(III)Z"⟩
abbrev cX12_readCompare : ByteArray := prog_14_method_146_code
def yX12_readCompare : MethodName := ⟨RX12, "readCompare", "(I)Z"⟩
abbrev cX12_sentence : ByteArray := prog_14_method_147_code
def yX12_sentence : MethodName := ⟨RX12, "sentence", "()I"⟩
abbrev cX12_holds : ByteArray := prog_14_method_148_code
def yX12_holds : MethodName := ⟨RX12, "holds", "(II)Z"⟩
abbrev cX12_said : ByteArray := prog_14_method_149_code
def yX12_said : MethodName := ⟨RX12, "said", "(I)I"⟩
abbrev cX12_image : ByteArray := prog_14_method_150_code
def yX12_image : MethodName := ⟨RX12, "image", "(I)Z"⟩
abbrev cX12_restore : ByteArray := prog_14_method_151_code
def yX12_restore : MethodName := ⟨RX12, "restore", "(I)Z"⟩
abbrev cX12_count : ByteArray := prog_14_method_152_code
def yX12_count : MethodName := ⟨RX12, "count", "(I)I"⟩
def RJx145de : String := "java/io/Serializable"
def RJx9f9b0 : String := "java/lang/CharSequence"
def RJxb160c : String := "java/lang/Comparable"
def RJx29ce0 : String := "java/lang/Enum"
def RJ6 : String := "java/lang/Integer"
abbrev cJ6_compare_7cf53 : ByteArray := prog_20_method_40_code
def yJ6_compare_7cf53 : MethodName := ⟨RJ6, "compare", "(II)I"⟩
abbrev cJ6_bitCount_0f7a4 : ByteArray := prog_20_method_49_code
def yJ6_bitCount_0f7a4 : MethodName := ⟨RJ6, "bitCount", "(I)I"⟩
def RJ9 : String := "java/lang/Math"
abbrev cJ9_abs_067f4 : ByteArray := prog_21_method_61_code
def yJ9_abs_067f4 : MethodName := ⟨RJ9, "abs", "(J)J"⟩
abbrev cJ9_max_7cf53 : ByteArray := prog_21_method_65_code
def yJ9_max_7cf53 : MethodName := ⟨RJ9, "max", "(II)I"⟩
abbrev cJ9_min_7cf53 : ByteArray := prog_21_method_69_code
def yJ9_min_7cf53 : MethodName := ⟨RJ9, "min", "(II)I"⟩
def RJ0 : String := "java/lang/String"
abbrev cJ0_length_8abf5 : ByteArray := prog_23_method_54_code
def yJ0_length_8abf5 : MethodName := ⟨RJ0, "length", "()I"⟩
abbrev cJ0_charAt_5068e : ByteArray := prog_23_method_56_code
def yJ0_charAt_5068e : MethodName := ⟨RJ0, "charAt", "(I)C"⟩
abbrev cJ0_coder_7d493 : ByteArray := prog_23_method_152_code
def yJ0_coder_7d493 : MethodName := ⟨RJ0, "coder", "()B"⟩
abbrev cJ0_isLatin1_aae02 : ByteArray := prog_23_method_154_code
def yJ0_isLatin1_aae02 : MethodName := ⟨RJ0, "isLatin1", "()Z"⟩
abbrev cJ0_checkIndex_df160 : ByteArray := prog_23_method_155_code
def yJ0_checkIndex_df160 : MethodName := ⟨RJ0, "checkIndex", "(II)V"⟩
def RJ1 : String := "java/lang/StringLatin1"
abbrev cJ1_charAt_3b067 : ByteArray := prog_24_method_2_code
def yJ1_charAt_3b067 : MethodName := ⟨RJ1, "charAt", "([BI)C"⟩
def RJ2 : String := "java/lang/StringUTF16"
abbrev cJ2_getChar_3b067 : ByteArray := prog_25_method_5_code
def yJ2_getChar_3b067 : MethodName := ⟨RJ2, "getChar", "([BI)C"⟩
abbrev cJ2_length_9d52b : ByteArray := prog_25_method_6_code
def yJ2_length_9d52b : MethodName := ⟨RJ2, "length", "([B)I"⟩
abbrev cJ2_charAt_3b067 : ByteArray := prog_25_method_83_code
def yJ2_charAt_3b067 : MethodName := ⟨RJ2, "charAt", "([BI)C"⟩
abbrev cJ2_checkIndex_2214a : ByteArray := prog_25_method_91_code
def yJ2_checkIndex_2214a : MethodName := ⟨RJ2, "checkIndex", "(I[B)V"⟩
def RJxfd54e : String := "java/lang/constant/Constable"
def RJx3cf43 : String := "java/lang/constant/ConstantDesc"
def RJ3 : String := "jdk/internal/util/Preconditions"
abbrev cJ3_checkIndex_8e157 : ByteArray := prog_30_method_11_code
def yJ3_checkIndex_8e157 : MethodName := ⟨RJ3, "checkIndex", "(IILjava/util/function/BiFunction;)I"⟩
def RL : String := "NameNotesLaw"
abbrev cL_named : ByteArray := method_3_code
def yL_named : MethodName := ⟨RL, "named", "(LNameNotes;IIIII[J)I"⟩
abbrev cL_odds : ByteArray := method_4_code
def yL_odds : MethodName := ⟨RL, "odds", "(LNameNotes;IIII[J)I"⟩
abbrev cL_worth : ByteArray := method_5_code
def yL_worth : MethodName := ⟨RL, "worth", "(LNameNotes;IIIII[J)I"⟩
abbrev cL_gains : ByteArray := method_6_code
def yL_gains : MethodName := ⟨RL, "gains", "(LNameNotes;IIIII[J)I"⟩
abbrev cL_held : ByteArray := method_7_code
def yL_held : MethodName := ⟨RL, "held", "(LNameNotes;IIIIII[J)I"⟩
abbrev cL_among : ByteArray := method_8_code
def yL_among : MethodName := ⟨RL, "among", "(LNameNotes;IIII[J)I"⟩
abbrev cL_match : ByteArray := method_9_code
def yL_match : MethodName := ⟨RL, "match", "(LNameNotes;IIII[J)I"⟩
abbrev cL_bolder : ByteArray := method_10_code
def yL_bolder : MethodName := ⟨RL, "bolder", "(LNameNotes;IIIII[J)I"⟩
abbrev cL_told : ByteArray := method_11_code
def yL_told : MethodName := ⟨RL, "told", "(LNameNotes;I[J)I"⟩
abbrev cL_law : ByteArray := code
def yL_law : MethodName := ⟨RL, "law", "([I)Z"⟩
abbrev vwCl : List vw_C := [(RX0, TX0, 3), (RX1, TX1, 4), (RX2, TX2, 8), (RX3, TX3, 2), (RX4, TX4, 7), (RX5, TX5, 5), (RX6, TX6, 17), (RX7, TX7, 6), (RX8, TX8, 11), (RX9, TX9, 2), (RX11, TX11, 18), (RX12, TX12, 63)]
end
section
/-! the tables' words by their places, held by one reading -/
def nn_TT : List Jvm.Cond := lw_tbl.filter goodWord
theorem nn_TT_good : ∀ w ∈ nn_TT, goodWord w = true := fun w hw => (List.mem_filter.mp hw).2
def nn_ch (k : Nat) : List Jvm.Cond := match k with
  | 0 => k2_sels lw_privs
  | 1 => tables_1_1
  | 2 => tables_1_2
  | 3 => tables_1_3
  | 4 => tables_1_4
  | 5 => tables_1_5
  | 6 => tables_1_6
  | 7 => tables_1_7
  | 8 => tables_1_8
  | 9 => tables_1_9
  | _ => tables_1_10
theorem nn_ch_in (k : Nat) : ∀ w ∈ nn_ch k, w ∈ lw_tbl := by
  intro w hw
  show w ∈ k2_sels lw_privs ++ (tables_1_1 ++ (tables_1_2 ++ (tables_1_3 ++ (tables_1_4 ++ (tables_1_5 ++ (tables_1_6 ++ (tables_1_7 ++ (tables_1_8 ++ (tables_1_9 ++ tables_1_10)))))))))
  simp only [List.mem_append]
  match k, hw with
  | 0, hw => exact Or.inl hw
  | 1, hw => exact Or.inr (Or.inl hw)
  | 2, hw => exact Or.inr (Or.inr (Or.inl hw))
  | 3, hw => exact Or.inr (Or.inr (Or.inr (Or.inl hw)))
  | 4, hw => exact Or.inr (Or.inr (Or.inr (Or.inr (Or.inl hw))))
  | 5, hw => exact Or.inr (Or.inr (Or.inr (Or.inr (Or.inr (Or.inl hw)))))
  | 6, hw => exact Or.inr (Or.inr (Or.inr (Or.inr (Or.inr (Or.inr (Or.inl hw))))))
  | 7, hw => exact Or.inr (Or.inr (Or.inr (Or.inr (Or.inr (Or.inr (Or.inr (Or.inl hw)))))))
  | 8, hw => exact Or.inr (Or.inr (Or.inr (Or.inr (Or.inr (Or.inr (Or.inr (Or.inr (Or.inl hw))))))))
  | 9, hw => exact Or.inr (Or.inr (Or.inr (Or.inr (Or.inr (Or.inr (Or.inr (Or.inr (Or.inr (Or.inl hw)))))))))
  | n + 10, hw => exact Or.inr (Or.inr (Or.inr (Or.inr (Or.inr (Or.inr (Or.inr (Or.inr (Or.inr (Or.inr hw)))))))))
/-- the place i is 1000 times the list's number and the place in it -/
def nn_at (i : Nat) (w : Jvm.Cond) : Bool := decide ((nn_ch (i / 1000))[i % 1000]? = some w) && goodWord w
theorem nn_at_ok {i : Nat} {w : Jvm.Cond} (h : nn_at i w = true) : w ∈ nn_TT := by
  unfold nn_at at h
  rw [Bool.and_eq_true, decide_eq_true_eq] at h
  exact List.mem_filter.mpr ⟨nn_ch_in _ _ (List.mem_of_getElem? h.1), h.2⟩
/-- a method link by its places: the pool's number, the kind, which method; the places of code, initialized, the two that say how it is called, the link -/
abbrev nn_LK : Type := (Nat × Nat × Nat) × Nat × Nat × Nat × Nat × Nat
def nn_lkB (MT : List ab_MR) (NW : ab_NW) (own : String) (q : nn_LK) : Bool := match MT[q.1.2.2]? with
  | some mr => nn_at q.2.2.1 (Jvm.Cond.initialized mr.1.cls) && decide (mr.1.cls ≠ "java/lang/invoke/MethodHandle") && decide (mr.1.cls ≠ "java/lang/invoke/VarHandle") && decide ((parseMethodDescriptor mr.1.desc).map (fun d => d.parameters.length) = some mr.2.2.2.2.1) &&
    (cond mr.2.2.2.2.2.1 (nn_at q.2.2.2.1 (Jvm.Cond.instanceMethod mr.1) && nn_at q.2.2.2.2.1 (Jvm.Cond.selects mr.1.cls mr.1 mr.1)) (nn_at q.2.2.2.1 (Jvm.Cond.static mr.1))) &&
    (cond (q.1.2.1.beq 0) (nn_at q.2.2.2.2.2 (Jvm.Cond.methodLink own q.1.1 mr.1)) (match NW[q.2.2.2.2.2]? with | some x => decide (x.1 = own) && x.2.1.beq q.1.1 && decide (x.2.2.1 = mr.1) | none => false))
  | none => false
theorem nn_lk_ok {MT : List ab_MR} {NW : ab_NW} {own : String} {l : List nn_LK} (hmc : ∀ mr ∈ MT, Jvm.Cond.code mr.1 mr.2.1 mr.2.2.1 mr.2.2.2.1 ∈ nn_TT) (h : l.all (nn_lkB MT NW own) = true) : ∀ q ∈ l.map (fun x => x.1), ab_mlk MT nn_TT NW own q := by
  intro q hq
  obtain ⟨x, hx, rfl⟩ := List.mem_map.mp hq
  have hb := List.all_eq_true.mp h x hx
  intro mr hmr
  unfold nn_lkB at hb
  rw [hmr] at hb
  replace hb : (nn_at x.2.2.1 (Jvm.Cond.initialized mr.1.cls) && decide (mr.1.cls ≠ "java/lang/invoke/MethodHandle") && decide (mr.1.cls ≠ "java/lang/invoke/VarHandle") && decide ((parseMethodDescriptor mr.1.desc).map (fun d => d.parameters.length) = some mr.2.2.2.2.1) &&
    (cond mr.2.2.2.2.2.1 (nn_at x.2.2.2.1 (Jvm.Cond.instanceMethod mr.1) && nn_at x.2.2.2.2.1 (Jvm.Cond.selects mr.1.cls mr.1 mr.1)) (nn_at x.2.2.2.1 (Jvm.Cond.static mr.1))) &&
    (cond (x.1.2.1.beq 0) (nn_at x.2.2.2.2.2 (Jvm.Cond.methodLink own x.1.1 mr.1)) (match NW[x.2.2.2.2.2]? with | some y => decide (y.1 = own) && y.2.1.beq x.1.1 && decide (y.2.2.1 = mr.1) | none => false))) = true := hb
  rw [Bool.and_eq_true, Bool.and_eq_true, Bool.and_eq_true, Bool.and_eq_true, Bool.and_eq_true, decide_eq_true_eq, decide_eq_true_eq, decide_eq_true_eq] at hb
  obtain ⟨⟨⟨⟨⟨h2, h3⟩, h4⟩, h5⟩, h6⟩, h7⟩ := hb
  refine ⟨hmc mr (List.mem_of_getElem? hmr), nn_at_ok h2, ⟨h3, h4⟩, h5, fun g => ?_, fun g => ?_, ?_⟩
  · rw [g] at h6
    replace h6 : (nn_at x.2.2.2.1 (Jvm.Cond.instanceMethod mr.1) && nn_at x.2.2.2.2.1 (Jvm.Cond.selects mr.1.cls mr.1 mr.1)) = true := h6
    rw [Bool.and_eq_true] at h6
    exact ⟨nn_at_ok h6.1, nn_at_ok h6.2⟩
  · rw [g] at h6
    exact nn_at_ok h6
  · cases hc : x.1.2.1.beq 0 with
    | true =>
      rw [hc] at h7
      exact Or.inl ⟨ab_beq hc, nn_at_ok h7⟩
    | false =>
      rw [hc] at h7
      replace h7 : (match NW[x.2.2.2.2.2]? with | some y => decide (y.1 = own) && y.2.1.beq x.1.1 && decide (y.2.2.1 = mr.1) | none => false) = true := h7
      split at h7
      · rename_i y hy
        rw [Bool.and_eq_true, Bool.and_eq_true, decide_eq_true_eq, decide_eq_true_eq] at h7
        obtain ⟨⟨g1, g2⟩, g3⟩ := h7
        have g2 := ab_beq g2
        refine Or.inr ⟨y.2.2.2, ?_⟩
        rw [← g1, ← g2, ← g3]
        exact List.mem_of_getElem? hy
      · cases h7
theorem nn_lk_app {MT : List ab_MR} {NW : ab_NW} {own : String} {a b : List nn_LK} (ha : ∀ q ∈ a.map (fun x => x.1), ab_mlk MT nn_TT NW own q) (hb : ∀ q ∈ b.map (fun x => x.1), ab_mlk MT nn_TT NW own q) : ∀ q ∈ (a ++ b).map (fun x => x.1), ab_mlk MT nn_TT NW own q := by
  intro q hq
  rw [List.map_append] at hq
  rcases List.mem_append.mp hq with h | h
  · exact ha q h
  · exact hb q h
def nn_cw (mr : ab_MR) : Jvm.Cond := Jvm.Cond.code mr.1 mr.2.1 mr.2.2.1 mr.2.2.2.1
theorem nn_inR {k i : Nat} {w : Jvm.Cond} (h : (nn_ch k)[i]? = some w) (g : goodWord w = true) : w ∈ nn_TT := List.mem_filter.mpr ⟨nn_ch_in _ _ (List.mem_of_getElem? h), g⟩
/-- the three methods of Math -/
def nn_mH1 (y : MethodName) (code : ByteArray) (n : Nat) (r : FieldType) : Prop := Jvm.Cond.static y ∈ nn_TT ∧ Jvm.Cond.initialized "java/lang/Math" ∈ nn_TT ∧ Jvm.Cond.code y code n (some r) ∈ nn_TT
def nn_mH : Prop := nn_mH1 Lib.Math.max.name Lib.Math.max.code 2 .int ∧ nn_mH1 Lib.Math.min.name Lib.Math.min.code 2 .int ∧ nn_mH1 Lib.MathLoose.abs_long.x Lib.MathLoose.abs_long.code 2 .long
theorem nn_mw {own : String} {x : Nat} {y : MethodName} {code : ByteArray} {n : Nat} {r : FieldType} {i : Nat} (h : nn_mH1 y code n r) (g : nn_at i (Jvm.Cond.methodLink own x y) = true) : ab_mw nn_TT own x y code n r := ⟨nn_at_ok g, h.1, h.2.1, h.2.2⟩
/-- a static's link by its place: in the tables, or in the list of nest mates' -/
def nn_psB (kd : ab_KD) (own : String) (q : (Nat × Nat) × Nat × Bool) : Bool :=
  cond (q.1.2.beq 1000) (nn_at q.2.1 (Jvm.Cond.fieldLink own q.1.1 "NameNotes$Word" "code" "J"))
    (cond (q.1.2.beq 1001) (nn_at q.2.1 (Jvm.Cond.methodLink own q.1.1 Lib.Math.max.name)) (cond (q.1.2.beq 1002) (nn_at q.2.1 (Jvm.Cond.methodLink own q.1.1 Lib.Math.min.name)) (cond (q.1.2.beq 1003) (nn_at q.2.1 (Jvm.Cond.methodLink own q.1.1 Lib.MathLoose.abs_long.x))
    (cond ((2000 : Nat).ble q.1.2) (match kd.2.2.2[q.2.1]? with | some y => decide (y.1 = own) && y.2.1.beq q.1.1 && y.2.2.2.beq (q.1.2 - 2000) | none => false) (q.1.2.ble 999 && match kd.1[q.1.2]? with
      | some x => cond q.2.2 (match kd.2.2.1[q.2.1]? with | some y => decide (y.1 = own) && y.2.1.beq q.1.1 && decide (y.2.2.1 = x.1) && decide (y.2.2.2.1 = x.2.1) && decide (y.2.2.2.2.1 = x.2.2.1) | none => false) (nn_at q.2.1 (Jvm.Cond.fieldLink own q.1.1 x.1 x.2.1 x.2.2.1))
      | none => false)))))
theorem nn_ps_ok (hm : nn_mH) {kd : ab_KD} {own : String} {l : List ((Nat × Nat) × Nat × Bool)} (h : l.all (nn_psB kd own) = true) : ∀ q ∈ l.map (fun x => x.1), ab_psok nn_TT kd own q := by
  intro q hq
  obtain ⟨z, hz, rfl⟩ := List.mem_map.mp hq
  have hb := List.all_eq_true.mp h z hz
  unfold nn_psB at hb
  cases hc : z.1.2.beq 1000 with
  | true =>
    rw [hc] at hb
    exact Or.inl ⟨ab_beq hc, nn_at_ok hb⟩
  | false =>
    rw [hc] at hb
    have cq : ∀ {b : Bool} {x y : Bool}, (cond b x y) = true → (b = true ∧ x = true) ∨ y = true := fun {b x y} h => by
      cases b with
      | true => exact Or.inl ⟨rfl, h⟩
      | false => exact Or.inr h
    rcases cq hb with ⟨g1, -⟩ | hb
    · cases g1
    rcases cq hb with ⟨g1, g2⟩ | hb
    · exact Or.inr (Or.inr (Or.inl ⟨ab_beq g1, nn_mw hm.1 g2⟩))
    rcases cq hb with ⟨g1, g2⟩ | hb
    · exact Or.inr (Or.inr (Or.inr (Or.inl ⟨ab_beq g1, nn_mw hm.2.1 g2⟩)))
    rcases cq hb with ⟨g1, g2⟩ | hb
    · exact Or.inr (Or.inr (Or.inr (Or.inr (Or.inl ⟨ab_beq g1, nn_mw hm.2.2 g2⟩))))
    rcases cq hb with ⟨g1, g2⟩ | hb
    · split at g2
      · rename_i y hy
        rw [Bool.and_eq_true, Bool.and_eq_true, decide_eq_true_eq] at g2
        obtain ⟨⟨e1, e2⟩, e3⟩ := g2
        have e2 := ab_beq e2
        have e3 := ab_beq e3
        refine Or.inr (Or.inr (Or.inr (Or.inr (Or.inr ⟨Nat.le_of_ble_eq_true g1, y.2.2.1, ?_⟩))))
        rw [← e1, ← e2, ← e3]
        exact List.mem_of_getElem? hy
      · cases g2
    rw [Bool.and_eq_true] at hb
    have hne : z.1.2 < 1000 := Nat.lt_succ_of_le (Nat.le_of_ble_eq_true hb.1)
    replace hb := hb.2
    split at hb
    · rename_i x hx
      refine Or.inr (Or.inl ⟨hne, x, hx, ?_⟩)
      cases hd : z.2.2 with
      | false =>
        rw [hd] at hb
        exact Or.inl (nn_at_ok hb)
      | true =>
        rw [hd] at hb
        split at hb
        · rename_i y hy
          rw [cond_true] at hb
          rw [Bool.and_eq_true, Bool.and_eq_true, Bool.and_eq_true, Bool.and_eq_true, decide_eq_true_eq, decide_eq_true_eq, decide_eq_true_eq, decide_eq_true_eq] at hb
          obtain ⟨⟨⟨⟨g1, g2⟩, g3⟩, g4⟩, g5⟩ := hb
          have g2 := ab_beq g2
          refine Or.inr ⟨y.2.2.2.2.2, ?_⟩
          rw [← g1, ← g2, ← g3, ← g4, ← g5]
          exact List.mem_of_getElem? hy
        · cases hb
    · cases hb
theorem nn_ki_ok {own : String} {l : List ((Nat × Int) × Nat)} (h : l.all (fun x => nn_at x.2 (Jvm.Cond.constant own x.1.1 (Int32.ofInt x.1.2))) = true) : ∀ q ∈ l.map (fun x => x.1), Jvm.Cond.constant own q.1 (Int32.ofInt q.2) ∈ nn_TT := by
  intro q hq
  obtain ⟨x, hx, rfl⟩ := List.mem_map.mp hq
  exact nn_at_ok (List.all_eq_true.mp h x hx)
theorem nn_kj_ok {own : String} {l : List ((Nat × Int) × Nat)} (h : l.all (fun x => nn_at x.2 (Jvm.Cond.constantLong own x.1.1 (Int64.ofInt x.1.2))) = true) : ∀ q ∈ l.map (fun x => x.1), Jvm.Cond.constantLong own q.1 (Int64.ofInt q.2) ∈ nn_TT := by
  intro q hq
  obtain ⟨x, hx, rfl⟩ := List.mem_map.mp hq
  exact nn_at_ok (List.all_eq_true.mp h x hx)
/-- a class's layout words by their places -/
def nn_layB (C : String) (T : u_T) : List Nat → Nat → Bool
  | [], _ => true
  | i :: l, k => nn_at i (u_lay C T k) && nn_layB C T l (k + 1)
theorem nn_lay_ok {C : String} {T : u_T} : ∀ (l : List Nat) (k : Nat), nn_layB C T l k = true → ∀ j, j < l.length → u_lay C T (k + j) ∈ nn_TT := by
  intro l
  induction l with
  | nil => intro k _ j hj; exact absurd hj (Nat.not_lt_zero _)
  | cons i l ih =>
    intro k h j hj
    unfold nn_layB at h
    rw [Bool.and_eq_true] at h
    cases j with
    | zero => exact nn_at_ok h.1
    | succ j =>
      have := ih (k + 1) h.2 j (by rw [List.length_cons] at hj; omega)
      rw [show k + 1 + j = k + (j + 1) by omega] at this
      exact this
theorem nn_ws_ok {C : String} {T : u_T} {N : Nat} {l : List Nat} (h : nn_layB C T l 0 = true) (hl : l.length = N) : ∀ w ∈ u_ws C T N, w ∈ nn_TT := by
  intro w hw
  obtain ⟨k, hk, rfl⟩ := List.mem_map.mp hw
  have := nn_lay_ok l 0 h k (by rw [hl]; exact List.mem_range.mp hk)
  rw [Nat.zero_add] at this
  exact this
/-- what is the same for all links to a class's fields -/
def nn_cls (cl : List vw_C) (ci : Nat) : Prop := ∃ (C : String) (T : u_T) (N : Nat), cl[ci]? = some (C, T, N) ∧ (∀ w ∈ u_ws C T N, w ∈ nn_TT) ∧ (∃ ty0 : Nat → FieldType, ∀ k, k < N → parseFieldDescriptor (T k).2.2.1 = some (ty0 k)) ∧ (∀ a, a < N → ∀ b, b < N → a ≠ b → (T a).2.1 ≠ (T b).2.1)
def nn_fB (cl : List vw_C) (own : String) (q : (Nat × Nat × Nat × Nat) × Nat) : Bool := match cl[q.1.2.1]? with
  | some c => (q.1.2.2.1 + 1).ble c.2.2 && nn_at q.2 (Jvm.Cond.fieldLink own q.1.1 (c.2.1 q.1.2.2.1).1 (c.2.1 q.1.2.2.1).2.1 (c.2.1 q.1.2.2.1).2.2.1) && ((c.2.1 q.1.2.2.1).2.2.2 || decide (parseFieldDescriptor (c.2.1 q.1.2.2.1).2.2.1 = some (ab_ft q.1.2.2.2)))
  | none => false
theorem nn_f_ok {cl : List vw_C} {own : String} {l : List ((Nat × Nat × Nat × Nat) × Nat)} (hc : ∀ ci, ci < cl.length → nn_cls cl ci) (h : l.all (nn_fB cl own) = true) : ∀ q ∈ l.map (fun x => x.1), ab_fok cl nn_TT own q := by
  intro q hq
  obtain ⟨x, hx, rfl⟩ := List.mem_map.mp hq
  have hb := List.all_eq_true.mp h x hx
  unfold nn_fB at hb
  split at hb
  · rename_i c9 hc9
    rw [Bool.and_eq_true, Bool.and_eq_true, Bool.or_eq_true, decide_eq_true_eq] at hb
    obtain ⟨C, T, N, g1, g2, g3, g4⟩ := hc x.1.2.1 (List.getElem?_eq_some_iff.mp hc9).1
    rw [hc9] at g1
    cases g1
    obtain ⟨⟨h1, h2⟩, h3⟩ := hb
    refine ⟨C, T, N, hc9, Nat.le_of_ble_eq_true h1, g2, nn_at_ok h2, g3, g4, fun hf => ?_⟩
    rcases h3 with h3 | h3
    · replace h3 : (T x.1.2.2.1).2.2.2 = true := h3
      rw [hf] at h3
      cases h3
    · exact h3
  · cases hb
/-- the methods' decoded instructions, one beside the other -/
def ab_dtP : List ab_MR → List ab_DT → Prop
  | m :: M, d :: D => ab_dtok m.2.1 d = true ∧ ab_dtP M D
  | [], [] => True
  | _, _ => False
theorem ab_dtP_app : ∀ {A : List ab_MR} {A' : List ab_DT} {B : List ab_MR} {B' : List ab_DT}, ab_dtP A A' → ab_dtP B B' → ab_dtP (A ++ B) (A' ++ B') := by
  intro A
  induction A with
  | nil =>
    intro A' B B' h1 h2
    cases A' with
    | nil => exact h2
    | cons d D => cases h1
  | cons m M ih =>
    intro A' B B' h1 h2
    cases A' with
    | nil => cases h1
    | cons d D => exact ⟨h1.1, ih h1.2 h2⟩
theorem ab_dtP_get : ∀ {A : List ab_MR} {A' : List ab_DT} {n : Nat} {mr : ab_MR} {dt : ab_DT}, ab_dtP A A' → A[n]? = some mr → A'[n]? = some dt → ab_dtok mr.2.1 dt = true := by
  intro A
  induction A with
  | nil => intro A' n mr dt _ h; cases h
  | cons m M ih =>
    intro A' n mr dt h h1 h2
    cases A' with
    | nil => cases h
    | cons d D =>
      cases n with
      | zero =>
        cases h1
        cases h2
        exact h.1
      | succ n => exact ih h.2 h1 h2
end
