section
/-- a private method of a class that the tables say can be made, by its rows of tables_1 -/
def lw_okq (q : MethodName × Nat) : Prop := (q.1.cls ≠ "java/lang/invoke/MethodHandle" ∧ q.1.cls ≠ "java/lang/invoke/VarHandle") ∧ Cond.instantiable q.1.cls q.2 ∈ tables_1 ∧ Cond.privateMethod q.1 ∈ tables_1 ∧ Cond.instanceMethod q.1 ∈ tables_1
/-- the rows of a list that lie behind so many others each -/
noncomputable def tb_pk (l : List Jvm.Cond) (g : List Nat) : List Jvm.Cond := List.rec (motive := fun _ => List Nat → List Jvm.Cond) (fun _ => []) (fun c _ ih g => List.rec (motive := fun _ => List Jvm.Cond) [] (fun n g _ => Nat.rec (motive := fun _ => List Jvm.Cond) (c :: ih g) (fun m _ => ih (m :: g)) n) g) l g
theorem tb_pk_mem : ∀ (l : List Jvm.Cond) (g : List Nat) (w : Jvm.Cond), w ∈ tb_pk l g → w ∈ l := by
  intro l
  induction l with
  | nil => intro g w h; exact h
  | cons c l ih =>
    intro g w h
    cases g with
    | nil => exact absurd h List.not_mem_nil
    | cons n g =>
      cases n with
      | zero =>
        have h : w ∈ c :: tb_pk l g := h
        rcases List.mem_cons.mp h with e | e
        · rw [e]; exact List.mem_cons_self
        · exact List.mem_cons_of_mem _ (ih g w e)
      | succ m => exact List.mem_cons_of_mem _ (ih (m :: g) w h)
def lw_privs_1 : List (MethodName × Nat) := [(⟨"NameNotes$Tape", "look", "(I)I"⟩, 11), (⟨"NameNotes$Tape", "readRun", "()V"⟩, 11), (⟨"NameNotes$Tape", "findKeyword", "()V"⟩, 11), (⟨"NameNotes$StudioReader", "readLine", "()Z"⟩, 6), (⟨"NameNotes$StudioReader", "readTune", "()Z"⟩, 6), (⟨"NameNotes$StudioReader", "isNewName", "()Z"⟩, 6), (⟨"NameNotes$StudioReader", "isIn", "([JI)Z"⟩, 6), (⟨"NameNotes$StudioReader", "readNote", "(I)Z"⟩, 6), (⟨"NameNotes$StudioReader", "readClue", "()Z"⟩, 6), (⟨"NameNotes$StudioReader", "readLeft", "(I)Z"⟩, 6), (⟨"NameNotes$StudioReader", "readPerson", "()Z"⟩, 6), (⟨"NameNotes$StudioReader", "readKnows", "()Z"⟩, 6), (⟨"NameNotes$StudioReader", "readDare", "()Z"⟩, 6), (⟨"NameNotes$StudioReader", "readFrom", "()Z"⟩, 6), (⟨"NameNotes$Studio", "countShared", "(III)I"⟩, 17), (⟨"NameNotes$Studio", "sameNote", "(IIII)Z"⟩, 17)]
def lw_privs_2 : List (MethodName × Nat) := [(⟨"NameNotes", "chanceOf", "(III)J"⟩, 18), (⟨"NameNotes$Ear", "knowsAny", "(I)J"⟩, 4), (⟨"NameNotes", "canBid", "(IIII)Z"⟩, 18), (⟨"NameNotes", "weigh", "(III)V"⟩, 18), (⟨"NameNotes$Duel", "speakBest", "(III)V"⟩, 3), (⟨"NameNotes", "counter", "(III)V"⟩, 18), (⟨"NameNotes$Duel", "speakAgainst", "(III)V"⟩, 3), (⟨"NameNotes", "addSpeaker", "(I)V"⟩, 18), (⟨"NameNotes", "scoreAll", "(IIZ)V"⟩, 18), (⟨"NameNotes", "scored", "(II)I"⟩, 18), (⟨"NameNotes", "distance", "(II)I"⟩, 18), (⟨"NameNotes$Evening", "readLine", "(LNameNotes$Tape;LNameNotes$Studio;)Z"⟩, 8), (⟨"NameNotes$Evening", "whyWrong", "(III)I"⟩, 8), (⟨"NameNotes", "canSpendNight", "(II)Z"⟩, 18), (⟨"NameNotes$Night", "spendRound", "(LNameNotes$Studio;I)V"⟩, 7), (⟨"NameNotes$Night", "draw", "(I)I"⟩, 7)]
def lw_privs_3 : List (MethodName × Nat) := [(⟨"NameNotes$Night", "drawTune", "(I)I"⟩, 7), (⟨"NameNotes$Night", "drawKnown", "(LNameNotes$Studio;II)V"⟩, 7), (⟨"NameNotes$Night", "wouldBid", "(LNameNotes$Studio;III)Z"⟩, 7), (⟨"NameNotes$Sentence", "readCond", "(LNameNotes$Tape;LNameNotes$Studio;I)Z"⟩, 5), (⟨"NameNotes$Sentence", "readOne", "(LNameNotes$Tape;LNameNotes$Studio;I)Z"⟩, 5), (⟨"NameNotes$Sentence", "addStep", "(II)V"⟩, 5), (⟨"NameNotes$Sentence", "readNamed", "(LNameNotes$Tape;LNameNotes$Studio;I)Z"⟩, 5), (⟨"NameNotes$Sentence", "readMeasured", "(LNameNotes$Tape;I)Z"⟩, 5), (⟨"NameNotes", "imageAt", "(I)LNameNotes$Studio;"⟩, 18), (⟨"NameNotes", "canName", "(IIII)Z"⟩, 18), (⟨"java/lang/Throwable", "fillInStackTrace", "(I)Ljava/lang/Throwable;"⟩, 6), (⟨"NameNotes", "rightChance", "(IIII)J"⟩, 18), (⟨"NameNotes$Ear", "addOther", "(I)V"⟩, 4), (⟨"NameNotesModel", "come", "(I)V"⟩, 63), (⟨"NameNotesModel", "begin", "(I)V"⟩, 63), (⟨"NameNotesModel", "lay", "()V"⟩, 63)]
def lw_privs_4 : List (MethodName × Nat) := [(⟨"NameNotesModel", "take", "()I"⟩, 63), (⟨"NameNotesModel", "go", "()V"⟩, 63), (⟨"NameNotesModel", "tapeAt", "(I)I"⟩, 63), (⟨"NameNotesModel", "readLine", "()Z"⟩, 63), (⟨"NameNotesModel", "isWord", "(I)Z"⟩, 63), (⟨"NameNotesModel", "readTune", "()Z"⟩, 63), (⟨"NameNotesModel", "bad", "(I)Z"⟩, 63), (⟨"NameNotesModel", "readNew", "(I)Z"⟩, 63), (⟨"NameNotesModel", "isName", "()Z"⟩, 63), (⟨"NameNotesModel", "isNumber", "(II)Z"⟩, 63), (⟨"NameNotesModel", "readNumber", "(II)Z"⟩, 63), (⟨"NameNotesModel", "readClue", "()Z"⟩, 63), (⟨"NameNotesModel", "isOne", "(II)Z"⟩, 63), (⟨"NameNotesModel", "readPerson", "()Z"⟩, 63), (⟨"NameNotesModel", "readKnows", "()Z"⟩, 63), (⟨"NameNotesModel", "readDare", "()Z"⟩, 63)]
def lw_privs_5 : List (MethodName × Nat) := [(⟨"NameNotesModel", "readFrom", "()Z"⟩, 63), (⟨"NameNotesModel", "readEnd", "()Z"⟩, 63), (⟨"NameNotesModel", "isSign", "(I)Z"⟩, 63), (⟨"NameNotesModel", "isTune", "(I)Z"⟩, 63), (⟨"NameNotesModel", "tunes", "()I"⟩, 63), (⟨"NameNotesModel", "notes", "(I)I"⟩, 63), (⟨"NameNotesModel", "noteOf", "(III)I"⟩, 63), (⟨"NameNotesModel", "tell", "(II)I"⟩, 63), (⟨"NameNotesModel", "isClue", "(I)Z"⟩, 63), (⟨"NameNotesModel", "isPerson", "(I)Z"⟩, 63), (⟨"NameNotesModel", "known", "(II)I"⟩, 63), (⟨"NameNotesModel", "isLeft", "(I)Z"⟩, 63), (⟨"NameNotesModel", "left", "(I)I"⟩, 63), (⟨"NameNotesModel", "likes", "(IIII)I"⟩, 63), (⟨"NameNotesModel", "areLike", "(IIII)Z"⟩, 63), (⟨"NameNotesModel", "likeNotes", "(III)I"⟩, 63)]
def lw_privs_6 : List (MethodName × Nat) := [(⟨"NameNotesModel", "isLikeNote", "(IIII)Z"⟩, 63), (⟨"NameNotesModel", "enoughOf", "(III)I"⟩, 63), (⟨"NameNotesModel", "apartOf", "(II)I"⟩, 63), (⟨"NameNotesModel", "isLikeNote2", "(IIII)Z"⟩, 63), (⟨"NameNotesModel", "isHeard", "(III)Z"⟩, 63), (⟨"NameNotesModel", "refuse", "()J"⟩, 63), (⟨"NameNotesModel", "layMind", "(I)V"⟩, 63), (⟨"NameNotesModel", "namedBy", "(III)J"⟩, 63), (⟨"NameNotesModel", "part", "(JJI)J"⟩, 63), (⟨"NameNotesModel", "oddsOf", "(III)J"⟩, 63), (⟨"NameNotesModel", "oddsBy", "(II)J"⟩, 63), (⟨"NameNotesModel", "oddsWith", "(IIII)J"⟩, 63), (⟨"NameNotesModel", "isSpeech", "(IIII)Z"⟩, 63), (⟨"NameNotesModel", "isRound", "(III)Z"⟩, 63), (⟨"NameNotesModel", "layBest", "(III)V"⟩, 63), (⟨"NameNotesModel", "layOdds", "(III)V"⟩, 63)]
def lw_privs_7 : List (MethodName × Nat) := [(⟨"NameNotesModel", "highest", "(I)I"⟩, 63), (⟨"NameNotesModel", "layReplies", "(III)V"⟩, 63), (⟨"NameNotesModel", "bidGains", "(II)J"⟩, 63), (⟨"NameNotesModel", "lowOf", "(III)I"⟩, 63), (⟨"NameNotesModel", "putName", "(J)V"⟩, 63), (⟨"NameNotesModel", "put", "(I)V"⟩, 63), (⟨"NameNotesModel", "snap", "()V"⟩, 63), (⟨"NameNotesModel", "layWins", "(II)V"⟩, 63), (⟨"NameNotesModel", "readHeard", "()Z"⟩, 63), (⟨"NameNotesModel", "readBid", "()Z"⟩, 63), (⟨"NameNotesModel", "judgeLine", "(II)V"⟩, 63), (⟨"NameNotesModel", "whyNot", "(II)I"⟩, 63), (⟨"NameNotesModel", "isNight", "(II)Z"⟩, 63), (⟨"NameNotesModel", "nightBy", "(III)I"⟩, 63), (⟨"NameNotesModel", "round", "(III)I"⟩, 63), (⟨"NameNotesModel", "draw", "(I)I"⟩, 63)]
def lw_privs_8 : List (MethodName × Nat) := [(⟨"NameNotesModel", "bids", "(IIIII)Z"⟩, 63), (⟨"NameNotesModel", "readOr", "()Z"⟩, 63), (⟨"NameNotesModel", "readAnd", "()Z"⟩, 63), (⟨"NameNotesModel", "readOne", "()Z"⟩, 63), (⟨"NameNotesModel", "readBracket", "()Z"⟩, 63), (⟨"NameNotesModel", "readNot", "()Z"⟩, 63), (⟨"NameNotesModel", "saysOne", "(IIII)I"⟩, 63), (⟨"NameNotesModel", "readOf", "(III)Z"⟩, 63), (⟨"NameNotesModel", "readCompare", "(I)Z"⟩, 63), (⟨"NameNotesModel", "holds", "(II)Z"⟩, 63)]
def lw_privs : List (MethodName × Nat) := lw_privs_1 ++ (lw_privs_2 ++ (lw_privs_3 ++ (lw_privs_4 ++ (lw_privs_5 ++ (lw_privs_6 ++ (lw_privs_7 ++ (lw_privs_8)))))))
def lw_tbl : List Cond := k2_sels lw_privs ++ tables_1
def lw_cl : List (String × Nat) := [("NameNotes$Tape", 11), ("NameNotes$StudioReader", 6), ("NameNotes$Studio", 17), ("NameNotes", 18), ("NameNotes$Ear", 4), ("NameNotes$Duel", 3), ("NameNotes$Evening", 8), ("NameNotes$Night", 7), ("NameNotes$Sentence", 5), ("java/lang/Throwable", 6), ("NameNotesModel", 63)]
theorem lw_c0 : ("NameNotes$Tape" ≠ "java/lang/invoke/MethodHandle" ∧ "NameNotes$Tape" ≠ "java/lang/invoke/VarHandle") ∧ Cond.instantiable "NameNotes$Tape" 11 ∈ tables_1 := ⟨⟨by decide +kernel, by decide +kernel⟩, List.mem_of_getElem? (i := 34) (by decide +kernel)⟩
theorem lw_c1 : ("NameNotes$StudioReader" ≠ "java/lang/invoke/MethodHandle" ∧ "NameNotes$StudioReader" ≠ "java/lang/invoke/VarHandle") ∧ Cond.instantiable "NameNotes$StudioReader" 6 ∈ tables_1 := ⟨⟨by decide +kernel, by decide +kernel⟩, List.mem_of_getElem? (i := 208) (by decide +kernel)⟩
theorem lw_c2 : ("NameNotes$Studio" ≠ "java/lang/invoke/MethodHandle" ∧ "NameNotes$Studio" ≠ "java/lang/invoke/VarHandle") ∧ Cond.instantiable "NameNotes$Studio" 17 ∈ tables_1 := ⟨⟨by decide +kernel, by decide +kernel⟩, List.mem_of_getElem? (i := 87) (by decide +kernel)⟩
theorem lw_c3 : ("NameNotes" ≠ "java/lang/invoke/MethodHandle" ∧ "NameNotes" ≠ "java/lang/invoke/VarHandle") ∧ Cond.instantiable "NameNotes" 18 ∈ tables_1 := ⟨⟨by decide +kernel, by decide +kernel⟩, List.mem_of_getElem? (i := 26) (by decide +kernel)⟩
theorem lw_c4 : ("NameNotes$Ear" ≠ "java/lang/invoke/MethodHandle" ∧ "NameNotes$Ear" ≠ "java/lang/invoke/VarHandle") ∧ Cond.instantiable "NameNotes$Ear" 4 ∈ tables_1 := ⟨⟨by decide +kernel, by decide +kernel⟩, List.mem_of_getElem? (i := 274) (by decide +kernel)⟩
theorem lw_c5 : ("NameNotes$Duel" ≠ "java/lang/invoke/MethodHandle" ∧ "NameNotes$Duel" ≠ "java/lang/invoke/VarHandle") ∧ Cond.instantiable "NameNotes$Duel" 3 ∈ tables_1 := ⟨⟨by decide +kernel, by decide +kernel⟩, List.mem_of_getElem? (i := 293) (by decide +kernel)⟩
theorem lw_c6 : ("NameNotes$Evening" ≠ "java/lang/invoke/MethodHandle" ∧ "NameNotes$Evening" ≠ "java/lang/invoke/VarHandle") ∧ Cond.instantiable "NameNotes$Evening" 8 ∈ tables_1 := ⟨⟨by decide +kernel, by decide +kernel⟩, List.mem_of_getElem? (i := 239) (by decide +kernel)⟩
theorem lw_c7 : ("NameNotes$Night" ≠ "java/lang/invoke/MethodHandle" ∧ "NameNotes$Night" ≠ "java/lang/invoke/VarHandle") ∧ Cond.instantiable "NameNotes$Night" 7 ∈ tables_1 := ⟨⟨by decide +kernel, by decide +kernel⟩, List.mem_of_getElem? (i := 309) (by decide +kernel)⟩
theorem lw_c8 : ("NameNotes$Sentence" ≠ "java/lang/invoke/MethodHandle" ∧ "NameNotes$Sentence" ≠ "java/lang/invoke/VarHandle") ∧ Cond.instantiable "NameNotes$Sentence" 5 ∈ tables_1 := ⟨⟨by decide +kernel, by decide +kernel⟩, List.mem_of_getElem? (i := 93) (by decide +kernel)⟩
theorem lw_c9 : ("java/lang/Throwable" ≠ "java/lang/invoke/MethodHandle" ∧ "java/lang/Throwable" ≠ "java/lang/invoke/VarHandle") ∧ Cond.instantiable "java/lang/Throwable" 6 ∈ tables_1 := ⟨⟨by decide +kernel, by decide +kernel⟩, List.mem_of_getElem? (i := 1332) (by decide +kernel)⟩
theorem lw_c10 : ("NameNotesModel" ≠ "java/lang/invoke/MethodHandle" ∧ "NameNotesModel" ≠ "java/lang/invoke/VarHandle") ∧ Cond.instantiable "NameNotesModel" 63 ∈ tables_1 := ⟨⟨by decide +kernel, by decide +kernel⟩, List.mem_of_getElem? (i := 1448) (by decide +kernel)⟩
theorem lw_ca : ∀ c ∈ lw_cl, (c.1 ≠ "java/lang/invoke/MethodHandle" ∧ c.1 ≠ "java/lang/invoke/VarHandle") ∧ Cond.instantiable c.1 c.2 ∈ tables_1 := List.forall_mem_cons.mpr ⟨lw_c0, List.forall_mem_cons.mpr ⟨lw_c1, List.forall_mem_cons.mpr ⟨lw_c2, List.forall_mem_cons.mpr ⟨lw_c3, List.forall_mem_cons.mpr ⟨lw_c4, List.forall_mem_cons.mpr ⟨lw_c5, List.forall_mem_cons.mpr ⟨lw_c6, List.forall_mem_cons.mpr ⟨lw_c7, List.forall_mem_cons.mpr ⟨lw_c8, List.forall_mem_cons.mpr ⟨lw_c9, List.forall_mem_cons.mpr ⟨lw_c10, fun _ h => absurd h List.not_mem_nil⟩⟩⟩⟩⟩⟩⟩⟩⟩⟩⟩
theorem lw_cb : (lw_privs.zip [0, 0, 0, 1, 1, 1, 1, 1, 1, 1, 1, 1, 1, 1, 2, 2, 3, 4, 3, 3, 5, 3, 5, 3, 3, 3, 3, 6, 6, 3, 7, 7, 7, 7, 7, 8, 8, 8, 8, 8, 3, 3, 9, 3, 4, 10, 10, 10, 10, 10, 10, 10, 10, 10, 10, 10, 10, 10, 10, 10, 10, 10, 10, 10, 10, 10, 10, 10, 10, 10, 10, 10, 10, 10, 10, 10, 10, 10, 10, 10, 10, 10, 10, 10, 10, 10, 10, 10, 10, 10, 10, 10, 10, 10, 10, 10, 10, 10, 10, 10, 10, 10, 10, 10, 10, 10, 10, 10, 10, 10, 10, 10, 10, 10, 10, 10, 10, 10, 10, 10, 10, 10]).all (fun q => decide (lw_cl[q.2]? = some (q.1.1.cls, q.1.2))) = true := by decide +kernel
theorem lw_zp : ∀ (l : List (MethodName × Nat)) (js : List Nat), js.length = l.length → (l.zip js).all (fun q => decide (lw_cl[q.2]? = some (q.1.1.cls, q.1.2))) = true → ∀ q ∈ l, (q.1.cls, q.2) ∈ lw_cl := by
  intro l
  induction l with
  | nil => intro js _ _ q h; exact absurd h List.not_mem_nil
  | cons a l ih =>
    intro js e h q hq
    cases js with
    | nil => cases e
    | cons j js =>
      have h : (decide (lw_cl[j]? = some (a.1.cls, a.2)) && (l.zip js).all (fun q => decide (lw_cl[q.2]? = some (q.1.1.cls, q.1.2)))) = true := h
      rw [Bool.and_eq_true] at h
      rcases List.mem_cons.mp hq with r | r
      · rw [r]; exact List.mem_of_getElem? (of_decide_eq_true h.1)
      · exact ih js (Nat.succ.inj e) h.2 q r
set_option maxRecDepth 100000 in
set_option maxHeartbeats 4000000 in
theorem lw_pa : tb_pk tables_1 [469, 12, 8, 8, 9, 8, 7, 9, 13, 3, 13, 5, 10, 5, 14, 3, 152, 19, 26, 3, 15, 16, 7, 107, 58, 3, 25, 47, 12, 11, 7, 3, 5, 7, 7, 35, 3, 26, 4, 4, 34, 19, 37, 30, 7, 278, 11, 3, 3, 3, 9, 5, 3, 9, 3, 3, 3, 6, 6, 3, 3, 6, 3, 3, 3, 3, 3, 11, 3, 3, 3, 7, 11, 7, 3, 14, 3, 3, 3, 3, 3, 11, 19, 3, 29, 3, 3, 3, 7, 10, 3, 30, 11, 3, 3, 3, 3, 11, 3, 16, 15, 3, 19, 18, 19, 3, 3, 3, 15, 3, 3, 3, 7, 15, 3, 3, 3, 3, 3, 3, 3, 7] = lw_privs.map (fun q => Cond.privateMethod q.1) := rfl
set_option maxRecDepth 100000 in
set_option maxHeartbeats 4000000 in
theorem lw_pb : tb_pk tables_1 [470, 12, 8, 8, 9, 8, 7, 9, 13, 3, 13, 5, 10, 5, 14, 3, 152, 19, 26, 3, 15, 16, 7, 107, 58, 3, 25, 47, 12, 11, 7, 3, 5, 7, 7, 35, 3, 26, 4, 4, 34, 19, 37, 30, 7, 278, 11, 3, 3, 3, 9, 5, 3, 9, 3, 3, 3, 6, 6, 3, 3, 6, 3, 3, 3, 3, 3, 11, 3, 3, 3, 7, 11, 7, 3, 14, 3, 3, 3, 3, 3, 11, 19, 3, 29, 3, 3, 3, 7, 10, 3, 30, 11, 3, 3, 3, 3, 11, 3, 16, 15, 3, 19, 18, 19, 3, 3, 3, 15, 3, 3, 3, 7, 15, 3, 3, 3, 3, 3, 3, 3, 7] = lw_privs.map (fun q => Cond.instanceMethod q.1) := rfl
theorem lw_privs_ok : ∀ q ∈ lw_privs, lw_okq q := fun q hq => by
  have c := lw_ca _ (lw_zp lw_privs _ (by decide +kernel) lw_cb q hq)
  exact ⟨c.1, c.2, tb_pk_mem _ _ _ (by rw [lw_pa]; exact List.mem_map.mpr ⟨q, hq, rfl⟩), tb_pk_mem _ _ _ (by rw [lw_pb]; exact List.mem_map.mpr ⟨q, hq, rfl⟩)⟩
end
section
def RX0 : String := "NameNotes$Duel"
def TX0 : u_T := fun k => match k with
  | 0 => ("NameNotes$Duel", "chances", "[J", true)
  | 1 => ("NameNotes$Duel", "values", "[J", true)
  | _ => ("NameNotes$Duel", "moves", "[I", true)
def tyX0 : Nat → FieldType := fun k => match k with
  | 0 => .array .long
  | 1 => .array .long
  | _ => .array .int
theorem nmX0 : ∀ a, a < 3 → ∀ b, b < 3 → a ≠ b → (TX0 a).2.1 ≠ (TX0 b).2.1 := by decide +kernel
theorem tyX0_ok : ∀ k, k < 3 → parseFieldDescriptor (TX0 k).2.2.1 = some (tyX0 k) := by decide +kernel
def RX1 : String := "NameNotes$Ear"
def TX1 : u_T := fun k => match k with
  | 0 => ("NameNotes$Ear", "ninths", "[I", true)
  | 1 => ("NameNotes$Ear", "groups", "[I", true)
  | 2 => ("NameNotes$Ear", "ways", "[J", true)
  | _ => ("NameNotes$Ear", "left", "I", false)
def tyX1 : Nat → FieldType := fun k => match k with
  | 0 => .array .int
  | 1 => .array .int
  | 2 => .array .long
  | _ => .int
theorem nmX1 : ∀ a, a < 4 → ∀ b, b < 4 → a ≠ b → (TX1 a).2.1 ≠ (TX1 b).2.1 := by decide +kernel
theorem tyX1_ok : ∀ k, k < 4 → parseFieldDescriptor (TX1 k).2.2.1 = some (tyX1 k) := by decide +kernel
def RX2 : String := "NameNotes$Evening"
def TX2 : u_T := fun k => match k with
  | 0 => ("NameNotes$Evening", "speakers", "[I", true)
  | 1 => ("NameNotes$Evening", "words", "[I", true)
  | 2 => ("NameNotes$Evening", "state", "[I", true)
  | 3 => ("NameNotes$Evening", "lines", "I", false)
  | 4 => ("NameNotes$Evening", "clueRead", "I", false)
  | 5 => ("NameNotes$Evening", "clue", "I", false)
  | 6 => ("NameNotes$Evening", "serial", "I", false)
  | _ => ("NameNotes$Evening", "any", "Z", false)
def tyX2 : Nat → FieldType := fun k => match k with
  | 0 => .array .int
  | 1 => .array .int
  | 2 => .array .int
  | 3 => .int
  | 4 => .int
  | 5 => .int
  | 6 => .int
  | _ => .boolean
theorem nmX2 : ∀ a, a < 8 → ∀ b, b < 8 → a ≠ b → (TX2 a).2.1 ≠ (TX2 b).2.1 := by decide +kernel
theorem tyX2_ok : ∀ k, k < 8 → parseFieldDescriptor (TX2 k).2.2.1 = some (tyX2 k) := by decide +kernel
def RX3 : String := "NameNotes$Journal"
def TX3 : u_T := fun k => match k with
  | 0 => ("NameNotes$Journal", "rows", "[I", true)
  | _ => ("NameNotes$Journal", "size", "I", false)
def tyX3 : Nat → FieldType := fun k => match k with
  | 0 => .array .int
  | _ => .int
theorem nmX3 : ∀ a, a < 2 → ∀ b, b < 2 → a ≠ b → (TX3 a).2.1 ≠ (TX3 b).2.1 := by decide +kernel
theorem tyX3_ok : ∀ k, k < 2 → parseFieldDescriptor (TX3 k).2.2.1 = some (tyX3 k) := by decide +kernel
def RX4 : String := "NameNotes$Night"
def TX4 : u_T := fun k => match k with
  | 0 => ("NameNotes$Night", "persons", "[I", true)
  | 1 => ("NameNotes$Night", "points", "[I", true)
  | 2 => ("NameNotes$Night", "known", "[I", true)
  | 3 => ("NameNotes$Night", "seed", "I", false)
  | 4 => ("NameNotes$Night", "rounds", "I", false)
  | 5 => ("NameNotes$Night", "rights", "I", false)
  | _ => ("NameNotes$Night", "least", "I", false)
def tyX4 : Nat → FieldType := fun k => match k with
  | 0 => .array .int
  | 1 => .array .int
  | 2 => .array .int
  | 3 => .int
  | 4 => .int
  | 5 => .int
  | _ => .int
theorem nmX4 : ∀ a, a < 7 → ∀ b, b < 7 → a ≠ b → (TX4 a).2.1 ≠ (TX4 b).2.1 := by decide +kernel
theorem tyX4_ok : ∀ k, k < 7 → parseFieldDescriptor (TX4 k).2.2.1 = some (tyX4 k) := by decide +kernel
def RX5 : String := "NameNotes$Sentence"
def TX5 : u_T := fun k => match k with
  | 0 => ("NameNotes$Sentence", "kinds", "[I", true)
  | 1 => ("NameNotes$Sentence", "values", "[I", true)
  | 2 => ("NameNotes$Sentence", "stack", "[I", true)
  | 3 => ("NameNotes$Sentence", "steps", "I", false)
  | _ => ("NameNotes$Sentence", "ones", "I", false)
def tyX5 : Nat → FieldType := fun k => match k with
  | 0 => .array .int
  | 1 => .array .int
  | 2 => .array .int
  | 3 => .int
  | _ => .int
theorem nmX5 : ∀ a, a < 5 → ∀ b, b < 5 → a ≠ b → (TX5 a).2.1 ≠ (TX5 b).2.1 := by decide +kernel
theorem tyX5_ok : ∀ k, k < 5 → parseFieldDescriptor (TX5 k).2.2.1 = some (tyX5 k) := by decide +kernel
def RX6 : String := "NameNotes$Studio"
def TX6 : u_T := fun k => match k with
  | 0 => ("NameNotes$Studio", "pitches", "[I", true)
  | 1 => ("NameNotes$Studio", "beats", "[I", true)
  | 2 => ("NameNotes$Studio", "sizes", "[I", true)
  | 3 => ("NameNotes$Studio", "shared", "[I", true)
  | 4 => ("NameNotes$Studio", "left", "[I", true)
  | 5 => ("NameNotes$Studio", "ninths", "[I", true)
  | 6 => ("NameNotes$Studio", "daring", "[I", true)
  | 7 => ("NameNotes$Studio", "tuneNames", "[J", true)
  | 8 => ("NameNotes$Studio", "clueNames", "[J", true)
  | 9 => ("NameNotes$Studio", "personNames", "[J", true)
  | 10 => ("NameNotes$Studio", "sentence", "LNameNotes$Sentence;", true)
  | 11 => ("NameNotes$Studio", "tunes", "I", false)
  | 12 => ("NameNotes$Studio", "clues", "I", false)
  | 13 => ("NameNotes$Studio", "persons", "I", false)
  | 14 => ("NameNotes$Studio", "from", "I", false)
  | 15 => ("NameNotes$Studio", "serial", "I", false)
  | _ => ("NameNotes$Studio", "kept", "Z", false)
def tyX6 : Nat → FieldType := fun k => match k with
  | 0 => .array .int
  | 1 => .array .int
  | 2 => .array .int
  | 3 => .array .int
  | 4 => .array .int
  | 5 => .array .int
  | 6 => .array .int
  | 7 => .array .long
  | 8 => .array .long
  | 9 => .array .long
  | 10 => .object "NameNotes$Sentence"
  | 11 => .int
  | 12 => .int
  | 13 => .int
  | 14 => .int
  | 15 => .int
  | _ => .boolean
theorem nmX6 : ∀ a, a < 17 → ∀ b, b < 17 → a ≠ b → (TX6 a).2.1 ≠ (TX6 b).2.1 := by decide +kernel
theorem tyX6_ok : ∀ k, k < 17 → parseFieldDescriptor (TX6 k).2.2.1 = some (tyX6 k) := by decide +kernel
def RX7 : String := "NameNotes$StudioReader"
def TX7 : u_T := fun k => match k with
  | 0 => ("NameNotes$StudioReader", "tape", "LNameNotes$Tape;", true)
  | 1 => ("NameNotes$StudioReader", "fresh", "LNameNotes$Studio;", true)
  | 2 => ("NameNotes$StudioReader", "knowsTold", "[I", true)
  | 3 => ("NameNotes$StudioReader", "daresTold", "I", false)
  | 4 => ("NameNotes$StudioReader", "fromTold", "Z", false)
  | _ => ("NameNotes$StudioReader", "lines", "I", false)
def tyX7 : Nat → FieldType := fun k => match k with
  | 0 => .object "NameNotes$Tape"
  | 1 => .object "NameNotes$Studio"
  | 2 => .array .int
  | 3 => .int
  | 4 => .boolean
  | _ => .int
theorem nmX7 : ∀ a, a < 6 → ∀ b, b < 6 → a ≠ b → (TX7 a).2.1 ≠ (TX7 b).2.1 := by decide +kernel
theorem tyX7_ok : ∀ k, k < 6 → parseFieldDescriptor (TX7 k).2.2.1 = some (tyX7 k) := by decide +kernel
def RX8 : String := "NameNotes$Tape"
def TX8 : u_T := fun k => match k with
  | 0 => ("NameNotes$Tape", "bytes", "[B", true)
  | 1 => ("NameNotes$Tape", "size", "I", false)
  | 2 => ("NameNotes$Tape", "most", "I", false)
  | 3 => ("NameNotes$Tape", "next", "I", false)
  | 4 => ("NameNotes$Tape", "place", "I", false)
  | 5 => ("NameNotes$Tape", "kind", "I", false)
  | 6 => ("NameNotes$Tape", "word", "J", false)
  | 7 => ("NameNotes$Tape", "keyword", "LNameNotes$Word;", false)
  | 8 => ("NameNotes$Tape", "number", "I", false)
  | 9 => ("NameNotes$Tape", "faultKind", "I", false)
  | _ => ("NameNotes$Tape", "faultPlace", "I", false)
def tyX8 : Nat → FieldType := fun k => match k with
  | 0 => .array .byte
  | 1 => .int
  | 2 => .int
  | 3 => .int
  | 4 => .int
  | 5 => .int
  | 6 => .long
  | 7 => .object "NameNotes$Word"
  | 8 => .int
  | 9 => .int
  | _ => .int
theorem nmX8 : ∀ a, a < 11 → ∀ b, b < 11 → a ≠ b → (TX8 a).2.1 ≠ (TX8 b).2.1 := by decide +kernel
theorem tyX8_ok : ∀ k, k < 11 → parseFieldDescriptor (TX8 k).2.2.1 = some (tyX8 k) := by decide +kernel
def RX9 : String := "NameNotes$Text"
def TX9 : u_T := fun k => match k with
  | 0 => ("NameNotes$Text", "signs", "[I", true)
  | _ => ("NameNotes$Text", "size", "I", false)
def tyX9 : Nat → FieldType := fun k => match k with
  | 0 => .array .int
  | _ => .int
theorem nmX9 : ∀ a, a < 2 → ∀ b, b < 2 → a ≠ b → (TX9 a).2.1 ≠ (TX9 b).2.1 := by decide +kernel
theorem tyX9_ok : ∀ k, k < 2 → parseFieldDescriptor (TX9 k).2.2.1 = some (tyX9 k) := by decide +kernel
def RX11 : String := "NameNotes"
def TX11 : u_T := fun k => match k with
  | 0 => ("NameNotes", "tape", "LNameNotes$Tape;", true)
  | 1 => ("NameNotes", "now", "LNameNotes$Studio;", true)
  | 2 => ("NameNotes", "firstImage", "LNameNotes$Studio;", true)
  | 3 => ("NameNotes", "secondImage", "LNameNotes$Studio;", true)
  | 4 => ("NameNotes", "reader", "LNameNotes$StudioReader;", true)
  | 5 => ("NameNotes", "draft", "LNameNotes$Sentence;", true)
  | 6 => ("NameNotes", "latest", "LNameNotes$Evening;", true)
  | 7 => ("NameNotes", "ear", "LNameNotes$Ear;", true)
  | 8 => ("NameNotes", "duel", "LNameNotes$Duel;", true)
  | 9 => ("NameNotes", "party", "LNameNotes$Night;", true)
  | 10 => ("NameNotes", "journal", "LNameNotes$Journal;", true)
  | 11 => ("NameNotes", "text", "LNameNotes$Text;", true)
  | 12 => ("NameNotes", "grid", "[I", true)
  | 13 => ("NameNotes", "scores", "[I", true)
  | 14 => ("NameNotes", "daring", "[I", true)
  | 15 => ("NameNotes", "lastNight", "[I", true)
  | 16 => ("NameNotes", "nightSpent", "Z", false)
  | _ => ("NameNotes", "studios", "I", false)
def tyX11 : Nat → FieldType := fun k => match k with
  | 0 => .object "NameNotes$Tape"
  | 1 => .object "NameNotes$Studio"
  | 2 => .object "NameNotes$Studio"
  | 3 => .object "NameNotes$Studio"
  | 4 => .object "NameNotes$StudioReader"
  | 5 => .object "NameNotes$Sentence"
  | 6 => .object "NameNotes$Evening"
  | 7 => .object "NameNotes$Ear"
  | 8 => .object "NameNotes$Duel"
  | 9 => .object "NameNotes$Night"
  | 10 => .object "NameNotes$Journal"
  | 11 => .object "NameNotes$Text"
  | 12 => .array .int
  | 13 => .array .int
  | 14 => .array .int
  | 15 => .array .int
  | 16 => .boolean
  | _ => .int
theorem nmX11 : ∀ a, a < 18 → ∀ b, b < 18 → a ≠ b → (TX11 a).2.1 ≠ (TX11 b).2.1 := by decide +kernel
theorem tyX11_ok : ∀ k, k < 18 → parseFieldDescriptor (TX11 k).2.2.1 = some (tyX11 k) := by decide +kernel
def RX12 : String := "NameNotesModel"
def TX12 : u_T := fun k => match k with
  | 0 => ("NameNotesModel", "thrown", "I", false)
  | 1 => ("NameNotesModel", "tape", "[I", true)
  | 2 => ("NameNotesModel", "taped", "I", false)
  | 3 => ("NameNotesModel", "size", "I", false)
  | 4 => ("NameNotesModel", "limit", "I", false)
  | 5 => ("NameNotesModel", "to", "I", false)
  | 6 => ("NameNotesModel", "from", "I", false)
  | 7 => ("NameNotesModel", "kind", "I", false)
  | 8 => ("NameNotesModel", "number", "I", false)
  | 9 => ("NameNotesModel", "signed", "I", false)
  | 10 => ("NameNotesModel", "fault", "I", false)
  | 11 => ("NameNotesModel", "place", "I", false)
  | 12 => ("NameNotesModel", "word", "J", false)
  | 13 => ("NameNotesModel", "told", "I", false)
  | 14 => ("NameNotesModel", "now", "[I", true)
  | 15 => ("NameNotesModel", "read", "[I", true)
  | 16 => ("NameNotesModel", "kept", "[I", true)
  | 17 => ("NameNotesModel", "snaps", "[I", true)
  | 18 => ("NameNotesModel", "name", "[J", true)
  | 19 => ("NameNotesModel", "readName", "[J", true)
  | 20 => ("NameNotesModel", "keptName", "[J", true)
  | 21 => ("NameNotesModel", "isKept", "[Z", true)
  | 22 => ("NameNotesModel", "isBegun", "Z", false)
  | 23 => ("NameNotesModel", "studios", "I", false)
  | 24 => ("NameNotesModel", "snapMany", "I", false)
  | 25 => ("NameNotesModel", "dareTold", "I", false)
  | 26 => ("NameNotesModel", "fromTold", "I", false)
  | 27 => ("NameNotesModel", "knowsTold", "[I", true)
  | 28 => ("NameNotesModel", "changes", "[I", true)
  | 29 => ("NameNotesModel", "changesNext", "[I", true)
  | 30 => ("NameNotesModel", "mind", "[I", true)
  | 31 => ("NameNotesModel", "others", "[J", true)
  | 32 => ("NameNotesModel", "oddsOfBoth", "[J", true)
  | 33 => ("NameNotesModel", "worth", "[J", true)
  | 34 => ("NameNotesModel", "gain", "[J", true)
  | 35 => ("NameNotesModel", "move", "[I", true)
  | 36 => ("NameNotesModel", "replyTo", "[I", true)
  | 37 => ("NameNotesModel", "text", "[I", true)
  | 38 => ("NameNotesModel", "letters", "[I", true)
  | 39 => ("NameNotesModel", "texted", "I", false)
  | 40 => ("NameNotesModel", "win", "[J", true)
  | 41 => ("NameNotesModel", "beBold", "[I", true)
  | 42 => ("NameNotesModel", "heard", "[I", true)
  | 43 => ("NameNotesModel", "lineMany", "I", false)
  | 44 => ("NameNotesModel", "why", "I", false)
  | 45 => ("NameNotesModel", "wrongLine", "I", false)
  | 46 => ("NameNotesModel", "bid", "I", false)
  | 47 => ("NameNotesModel", "bidder", "I", false)
  | 48 => ("NameNotesModel", "namer", "I", false)
  | 49 => ("NameNotesModel", "toSpeak", "I", false)
  | 50 => ("NameNotesModel", "spoke", "I", false)
  | 51 => ("NameNotesModel", "heardId", "I", false)
  | 52 => ("NameNotesModel", "heardClue", "I", false)
  | 53 => ("NameNotesModel", "clueNow", "I", false)
  | 54 => ("NameNotesModel", "seed", "I", false)
  | 55 => ("NameNotesModel", "minds", "[I", true)
  | 56 => ("NameNotesModel", "nightly", "[I", true)
  | 57 => ("NameNotesModel", "night", "[I", true)
  | 58 => ("NameNotesModel", "node", "[I", true)
  | 59 => ("NameNotesModel", "nodes", "I", false)
  | 60 => ("NameNotesModel", "onesMany", "I", false)
  | 61 => ("NameNotesModel", "within", "I", false)
  | _ => ("NameNotesModel", "top", "I", false)
def tyX12 : Nat → FieldType := fun k => match k with
  | 0 => .int
  | 1 => .array .int
  | 2 => .int
  | 3 => .int
  | 4 => .int
  | 5 => .int
  | 6 => .int
  | 7 => .int
  | 8 => .int
  | 9 => .int
  | 10 => .int
  | 11 => .int
  | 12 => .long
  | 13 => .int
  | 14 => .array .int
  | 15 => .array .int
  | 16 => .array .int
  | 17 => .array .int
  | 18 => .array .long
  | 19 => .array .long
  | 20 => .array .long
  | 21 => .array .boolean
  | 22 => .boolean
  | 23 => .int
  | 24 => .int
  | 25 => .int
  | 26 => .int
  | 27 => .array .int
  | 28 => .array .int
  | 29 => .array .int
  | 30 => .array .int
  | 31 => .array .long
  | 32 => .array .long
  | 33 => .array .long
  | 34 => .array .long
  | 35 => .array .int
  | 36 => .array .int
  | 37 => .array .int
  | 38 => .array .int
  | 39 => .int
  | 40 => .array .long
  | 41 => .array .int
  | 42 => .array .int
  | 43 => .int
  | 44 => .int
  | 45 => .int
  | 46 => .int
  | 47 => .int
  | 48 => .int
  | 49 => .int
  | 50 => .int
  | 51 => .int
  | 52 => .int
  | 53 => .int
  | 54 => .int
  | 55 => .array .int
  | 56 => .array .int
  | 57 => .array .int
  | 58 => .array .int
  | 59 => .int
  | 60 => .int
  | 61 => .int
  | _ => .int
theorem nmX12 : ∀ a, a < 63 → ∀ b, b < 63 → a ≠ b → (TX12 a).2.1 ≠ (TX12 b).2.1 := by decide +kernel
theorem tyX12_ok : ∀ k, k < 63 → parseFieldDescriptor (TX12 k).2.2.1 = some (tyX12 k) := by decide +kernel
abbrev cL_law : ByteArray := code
abbrev vwCl : List vw_C := [(RX0, TX0, 3), (RX1, TX1, 4), (RX2, TX2, 8), (RX3, TX3, 2), (RX4, TX4, 7), (RX5, TX5, 5), (RX6, TX6, 17), (RX7, TX7, 6), (RX8, TX8, 11), (RX9, TX9, 2), (RX11, TX11, 18), (RX12, TX12, 63)]
end
section
/-! the tables' words by their places, held by one reading -/
def nn_TT : List Jvm.Cond := lw_tbl.filter goodWord
theorem nn_TT_good : ∀ w ∈ nn_TT, goodWord w = true := fun w hw => (List.mem_filter.mp hw).2
def nn_ch (k : Nat) : List Jvm.Cond := match k with
  | 0 => k2_sels lw_privs
  | 1 => tables_1_1
  | 2 => tables_1_2
  | 3 => tables_1_3
  | 4 => tables_1_4
  | 5 => tables_1_5
  | 6 => tables_1_6
  | 7 => tables_1_7
  | 8 => tables_1_8
  | 9 => tables_1_9
  | _ => tables_1_10
theorem nn_ch_in (k : Nat) : ∀ w ∈ nn_ch k, w ∈ lw_tbl := by
  intro w hw
  show w ∈ k2_sels lw_privs ++ (tables_1_1 ++ (tables_1_2 ++ (tables_1_3 ++ (tables_1_4 ++ (tables_1_5 ++ (tables_1_6 ++ (tables_1_7 ++ (tables_1_8 ++ (tables_1_9 ++ tables_1_10)))))))))
  simp only [List.mem_append]
  match k, hw with
  | 0, hw => exact Or.inl hw
  | 1, hw => exact Or.inr (Or.inl hw)
  | 2, hw => exact Or.inr (Or.inr (Or.inl hw))
  | 3, hw => exact Or.inr (Or.inr (Or.inr (Or.inl hw)))
  | 4, hw => exact Or.inr (Or.inr (Or.inr (Or.inr (Or.inl hw))))
  | 5, hw => exact Or.inr (Or.inr (Or.inr (Or.inr (Or.inr (Or.inl hw)))))
  | 6, hw => exact Or.inr (Or.inr (Or.inr (Or.inr (Or.inr (Or.inr (Or.inl hw))))))
  | 7, hw => exact Or.inr (Or.inr (Or.inr (Or.inr (Or.inr (Or.inr (Or.inr (Or.inl hw)))))))
  | 8, hw => exact Or.inr (Or.inr (Or.inr (Or.inr (Or.inr (Or.inr (Or.inr (Or.inr (Or.inl hw))))))))
  | 9, hw => exact Or.inr (Or.inr (Or.inr (Or.inr (Or.inr (Or.inr (Or.inr (Or.inr (Or.inr (Or.inl hw)))))))))
  | n + 10, hw => exact Or.inr (Or.inr (Or.inr (Or.inr (Or.inr (Or.inr (Or.inr (Or.inr (Or.inr (Or.inr hw)))))))))
/-- the place i is 1000 times the list's number and the place in it -/
def nn_at (i : Nat) (w : Jvm.Cond) : Bool := decide ((nn_ch (i / 1000))[i % 1000]? = some w) && goodWord w
theorem nn_at_ok {i : Nat} {w : Jvm.Cond} (h : nn_at i w = true) : w ∈ nn_TT := by
  unfold nn_at at h
  rw [Bool.and_eq_true, decide_eq_true_eq] at h
  exact List.mem_filter.mpr ⟨nn_ch_in _ _ (List.mem_of_getElem? h.1), h.2⟩
/-- a method link by its places: the pool's number, the kind, which method; the places of code, initialized, the two that say how it is called, the link -/
abbrev nn_LK : Type := (Nat × Nat × Nat) × Nat × Nat × Nat × Nat × Nat
def nn_lkB (MT : List ab_MR) (NW : ab_NW) (own : String) (q : nn_LK) : Bool := match MT[q.1.2.2]? with
  | some mr => nn_at q.2.2.1 (Jvm.Cond.initialized mr.1.cls) && decide (mr.1.cls ≠ "java/lang/invoke/MethodHandle") && decide (mr.1.cls ≠ "java/lang/invoke/VarHandle") && decide ((parseMethodDescriptor mr.1.desc).map (fun d => d.parameters.length) = some mr.2.2.2.2.1) &&
    (cond mr.2.2.2.2.2.1 (nn_at q.2.2.2.1 (Jvm.Cond.instanceMethod mr.1) && nn_at q.2.2.2.2.1 (Jvm.Cond.selects mr.1.cls mr.1 mr.1)) (nn_at q.2.2.2.1 (Jvm.Cond.static mr.1))) &&
    (cond (q.1.2.1.beq 0) (nn_at q.2.2.2.2.2 (Jvm.Cond.methodLink own q.1.1 mr.1)) (match NW[q.2.2.2.2.2]? with | some x => decide (x.1 = own) && x.2.1.beq q.1.1 && decide (x.2.2.1 = mr.1) | none => false))
  | none => false
theorem nn_lk_ok {MT : List ab_MR} {NW : ab_NW} {own : String} {l : List nn_LK} (hmc : ∀ mr ∈ MT, Jvm.Cond.code mr.1 mr.2.1 mr.2.2.1 mr.2.2.2.1 ∈ nn_TT) (h : l.all (nn_lkB MT NW own) = true) : ∀ q ∈ l.map (fun x => x.1), ab_mlk MT nn_TT NW own q := by
  intro q hq
  obtain ⟨x, hx, rfl⟩ := List.mem_map.mp hq
  have hb := List.all_eq_true.mp h x hx
  intro mr hmr
  unfold nn_lkB at hb
  rw [hmr] at hb
  replace hb : (nn_at x.2.2.1 (Jvm.Cond.initialized mr.1.cls) && decide (mr.1.cls ≠ "java/lang/invoke/MethodHandle") && decide (mr.1.cls ≠ "java/lang/invoke/VarHandle") && decide ((parseMethodDescriptor mr.1.desc).map (fun d => d.parameters.length) = some mr.2.2.2.2.1) &&
    (cond mr.2.2.2.2.2.1 (nn_at x.2.2.2.1 (Jvm.Cond.instanceMethod mr.1) && nn_at x.2.2.2.2.1 (Jvm.Cond.selects mr.1.cls mr.1 mr.1)) (nn_at x.2.2.2.1 (Jvm.Cond.static mr.1))) &&
    (cond (x.1.2.1.beq 0) (nn_at x.2.2.2.2.2 (Jvm.Cond.methodLink own x.1.1 mr.1)) (match NW[x.2.2.2.2.2]? with | some y => decide (y.1 = own) && y.2.1.beq x.1.1 && decide (y.2.2.1 = mr.1) | none => false))) = true := hb
  rw [Bool.and_eq_true, Bool.and_eq_true, Bool.and_eq_true, Bool.and_eq_true, Bool.and_eq_true, decide_eq_true_eq, decide_eq_true_eq, decide_eq_true_eq] at hb
  obtain ⟨⟨⟨⟨⟨h2, h3⟩, h4⟩, h5⟩, h6⟩, h7⟩ := hb
  refine ⟨hmc mr (List.mem_of_getElem? hmr), nn_at_ok h2, ⟨h3, h4⟩, h5, fun g => ?_, fun g => ?_, ?_⟩
  · rw [g] at h6
    replace h6 : (nn_at x.2.2.2.1 (Jvm.Cond.instanceMethod mr.1) && nn_at x.2.2.2.2.1 (Jvm.Cond.selects mr.1.cls mr.1 mr.1)) = true := h6
    rw [Bool.and_eq_true] at h6
    exact ⟨nn_at_ok h6.1, nn_at_ok h6.2⟩
  · rw [g] at h6
    exact nn_at_ok h6
  · cases hc : x.1.2.1.beq 0 with
    | true =>
      rw [hc] at h7
      exact Or.inl ⟨ab_beq hc, nn_at_ok h7⟩
    | false =>
      rw [hc] at h7
      replace h7 : (match NW[x.2.2.2.2.2]? with | some y => decide (y.1 = own) && y.2.1.beq x.1.1 && decide (y.2.2.1 = mr.1) | none => false) = true := h7
      split at h7
      · rename_i y hy
        rw [Bool.and_eq_true, Bool.and_eq_true, decide_eq_true_eq, decide_eq_true_eq] at h7
        obtain ⟨⟨g1, g2⟩, g3⟩ := h7
        have g2 := ab_beq g2
        refine Or.inr ⟨y.2.2.2, ?_⟩
        rw [← g1, ← g2, ← g3]
        exact List.mem_of_getElem? hy
      · cases h7
theorem nn_lk_app {MT : List ab_MR} {NW : ab_NW} {own : String} {a b : List nn_LK} (ha : ∀ q ∈ a.map (fun x => x.1), ab_mlk MT nn_TT NW own q) (hb : ∀ q ∈ b.map (fun x => x.1), ab_mlk MT nn_TT NW own q) : ∀ q ∈ (a ++ b).map (fun x => x.1), ab_mlk MT nn_TT NW own q := by
  intro q hq
  rw [List.map_append] at hq
  rcases List.mem_append.mp hq with h | h
  · exact ha q h
  · exact hb q h
def nn_cw (mr : ab_MR) : Jvm.Cond := Jvm.Cond.code mr.1 mr.2.1 mr.2.2.1 mr.2.2.2.1
/-- the three methods of Math -/
def nn_mH1 (y : MethodName) (code : ByteArray) (n : Nat) (r : FieldType) : Prop := Jvm.Cond.static y ∈ nn_TT ∧ Jvm.Cond.initialized "java/lang/Math" ∈ nn_TT ∧ Jvm.Cond.code y code n (some r) ∈ nn_TT
def nn_mH : Prop := nn_mH1 Lib.Math.max.name Lib.Math.max.code 2 .int ∧ nn_mH1 Lib.Math.min.name Lib.Math.min.code 2 .int ∧ nn_mH1 Lib.MathLoose.abs_long.x Lib.MathLoose.abs_long.code 2 .long
theorem nn_mw {own : String} {x : Nat} {y : MethodName} {code : ByteArray} {n : Nat} {r : FieldType} {i : Nat} (h : nn_mH1 y code n r) (g : nn_at i (Jvm.Cond.methodLink own x y) = true) : ab_mw nn_TT own x y code n r := ⟨nn_at_ok g, h.1, h.2.1, h.2.2⟩
/-- a static's link by its place: in the tables, or in the list of nest mates' -/
def nn_psB (kd : ab_KD) (own : String) (q : (Nat × Nat) × Nat × Bool) : Bool :=
  cond (q.1.2.beq 1000) (nn_at q.2.1 (Jvm.Cond.fieldLink own q.1.1 "NameNotes$Word" "code" "J"))
    (cond (q.1.2.beq 1001) (nn_at q.2.1 (Jvm.Cond.methodLink own q.1.1 Lib.Math.max.name)) (cond (q.1.2.beq 1002) (nn_at q.2.1 (Jvm.Cond.methodLink own q.1.1 Lib.Math.min.name)) (cond (q.1.2.beq 1003) (nn_at q.2.1 (Jvm.Cond.methodLink own q.1.1 Lib.MathLoose.abs_long.x))
    (cond ((2000 : Nat).ble q.1.2) (match kd.2.2.2[q.2.1]? with | some y => decide (y.1 = own) && y.2.1.beq q.1.1 && y.2.2.2.beq (q.1.2 - 2000) | none => false) (q.1.2.ble 999 && match kd.1[q.1.2]? with
      | some x => cond q.2.2 (match kd.2.2.1[q.2.1]? with | some y => decide (y.1 = own) && y.2.1.beq q.1.1 && decide (y.2.2.1 = x.1) && decide (y.2.2.2.1 = x.2.1) && decide (y.2.2.2.2.1 = x.2.2.1) | none => false) (nn_at q.2.1 (Jvm.Cond.fieldLink own q.1.1 x.1 x.2.1 x.2.2.1))
      | none => false)))))
theorem nn_ps_ok (hm : nn_mH) {kd : ab_KD} {own : String} {l : List ((Nat × Nat) × Nat × Bool)} (h : l.all (nn_psB kd own) = true) : ∀ q ∈ l.map (fun x => x.1), ab_psok nn_TT kd own q := by
  intro q hq
  obtain ⟨z, hz, rfl⟩ := List.mem_map.mp hq
  have hb := List.all_eq_true.mp h z hz
  unfold nn_psB at hb
  cases hc : z.1.2.beq 1000 with
  | true =>
    rw [hc] at hb
    exact Or.inl ⟨ab_beq hc, nn_at_ok hb⟩
  | false =>
    rw [hc] at hb
    have cq : ∀ {b : Bool} {x y : Bool}, (cond b x y) = true → (b = true ∧ x = true) ∨ y = true := fun {b x y} h => by
      cases b with
      | true => exact Or.inl ⟨rfl, h⟩
      | false => exact Or.inr h
    rcases cq hb with ⟨g1, -⟩ | hb
    · cases g1
    rcases cq hb with ⟨g1, g2⟩ | hb
    · exact Or.inr (Or.inr (Or.inl ⟨ab_beq g1, nn_mw hm.1 g2⟩))
    rcases cq hb with ⟨g1, g2⟩ | hb
    · exact Or.inr (Or.inr (Or.inr (Or.inl ⟨ab_beq g1, nn_mw hm.2.1 g2⟩)))
    rcases cq hb with ⟨g1, g2⟩ | hb
    · exact Or.inr (Or.inr (Or.inr (Or.inr (Or.inl ⟨ab_beq g1, nn_mw hm.2.2 g2⟩))))
    rcases cq hb with ⟨g1, g2⟩ | hb
    · split at g2
      · rename_i y hy
        rw [Bool.and_eq_true, Bool.and_eq_true, decide_eq_true_eq] at g2
        obtain ⟨⟨e1, e2⟩, e3⟩ := g2
        have e2 := ab_beq e2
        have e3 := ab_beq e3
        refine Or.inr (Or.inr (Or.inr (Or.inr (Or.inr ⟨Nat.le_of_ble_eq_true g1, y.2.2.1, ?_⟩))))
        rw [← e1, ← e2, ← e3]
        exact List.mem_of_getElem? hy
      · cases g2
    rw [Bool.and_eq_true] at hb
    have hne : z.1.2 < 1000 := Nat.lt_succ_of_le (Nat.le_of_ble_eq_true hb.1)
    replace hb := hb.2
    split at hb
    · rename_i x hx
      refine Or.inr (Or.inl ⟨hne, x, hx, ?_⟩)
      cases hd : z.2.2 with
      | false =>
        rw [hd] at hb
        exact Or.inl (nn_at_ok hb)
      | true =>
        rw [hd] at hb
        split at hb
        · rename_i y hy
          rw [cond_true] at hb
          rw [Bool.and_eq_true, Bool.and_eq_true, Bool.and_eq_true, Bool.and_eq_true, decide_eq_true_eq, decide_eq_true_eq, decide_eq_true_eq, decide_eq_true_eq] at hb
          obtain ⟨⟨⟨⟨g1, g2⟩, g3⟩, g4⟩, g5⟩ := hb
          have g2 := ab_beq g2
          refine Or.inr ⟨y.2.2.2.2.2, ?_⟩
          rw [← g1, ← g2, ← g3, ← g4, ← g5]
          exact List.mem_of_getElem? hy
        · cases hb
    · cases hb
theorem nn_ki_ok {own : String} {l : List ((Nat × Int) × Nat)} (h : l.all (fun x => nn_at x.2 (Jvm.Cond.constant own x.1.1 (Int32.ofInt x.1.2))) = true) : ∀ q ∈ l.map (fun x => x.1), Jvm.Cond.constant own q.1 (Int32.ofInt q.2) ∈ nn_TT := by
  intro q hq
  obtain ⟨x, hx, rfl⟩ := List.mem_map.mp hq
  exact nn_at_ok (List.all_eq_true.mp h x hx)
theorem nn_kj_ok {own : String} {l : List ((Nat × Int) × Nat)} (h : l.all (fun x => nn_at x.2 (Jvm.Cond.constantLong own x.1.1 (Int64.ofInt x.1.2))) = true) : ∀ q ∈ l.map (fun x => x.1), Jvm.Cond.constantLong own q.1 (Int64.ofInt q.2) ∈ nn_TT := by
  intro q hq
  obtain ⟨x, hx, rfl⟩ := List.mem_map.mp hq
  exact nn_at_ok (List.all_eq_true.mp h x hx)
/-- a class's layout words by their places -/
def nn_layB (C : String) (T : u_T) : List Nat → Nat → Bool
  | [], _ => true
  | i :: l, k => nn_at i (u_lay C T k) && nn_layB C T l (k + 1)
theorem nn_lay_ok {C : String} {T : u_T} : ∀ (l : List Nat) (k : Nat), nn_layB C T l k = true → ∀ j, j < l.length → u_lay C T (k + j) ∈ nn_TT := by
  intro l
  induction l with
  | nil => intro k _ j hj; exact absurd hj (Nat.not_lt_zero _)
  | cons i l ih =>
    intro k h j hj
    unfold nn_layB at h
    rw [Bool.and_eq_true] at h
    cases j with
    | zero => exact nn_at_ok h.1
    | succ j =>
      have := ih (k + 1) h.2 j (by rw [List.length_cons] at hj; omega)
      rw [show k + 1 + j = k + (j + 1) by omega] at this
      exact this
theorem nn_ws_ok {C : String} {T : u_T} {N : Nat} {l : List Nat} (h : nn_layB C T l 0 = true) (hl : l.length = N) : ∀ w ∈ u_ws C T N, w ∈ nn_TT := by
  intro w hw
  obtain ⟨k, hk, rfl⟩ := List.mem_map.mp hw
  have := nn_lay_ok l 0 h k (by rw [hl]; exact List.mem_range.mp hk)
  rw [Nat.zero_add] at this
  exact this
/-- what is the same for all links to a class's fields -/
def nn_cls (cl : List vw_C) (ci : Nat) : Prop := ∃ (C : String) (T : u_T) (N : Nat), cl[ci]? = some (C, T, N) ∧ (∀ w ∈ u_ws C T N, w ∈ nn_TT) ∧ (∃ ty0 : Nat → FieldType, ∀ k, k < N → parseFieldDescriptor (T k).2.2.1 = some (ty0 k)) ∧ (∀ a, a < N → ∀ b, b < N → a ≠ b → (T a).2.1 ≠ (T b).2.1)
def nn_fB (cl : List vw_C) (own : String) (q : (Nat × Nat × Nat × Nat) × Nat) : Bool := match cl[q.1.2.1]? with
  | some c => (q.1.2.2.1 + 1).ble c.2.2 && nn_at q.2 (Jvm.Cond.fieldLink own q.1.1 (c.2.1 q.1.2.2.1).1 (c.2.1 q.1.2.2.1).2.1 (c.2.1 q.1.2.2.1).2.2.1) && ((c.2.1 q.1.2.2.1).2.2.2 || decide (parseFieldDescriptor (c.2.1 q.1.2.2.1).2.2.1 = some (ab_ft q.1.2.2.2)))
  | none => false
theorem nn_f_ok {cl : List vw_C} {own : String} {l : List ((Nat × Nat × Nat × Nat) × Nat)} (hc : ∀ ci, ci < cl.length → nn_cls cl ci) (h : l.all (nn_fB cl own) = true) : ∀ q ∈ l.map (fun x => x.1), ab_fok cl nn_TT own q := by
  intro q hq
  obtain ⟨x, hx, rfl⟩ := List.mem_map.mp hq
  have hb := List.all_eq_true.mp h x hx
  unfold nn_fB at hb
  split at hb
  · rename_i c9 hc9
    rw [Bool.and_eq_true, Bool.and_eq_true, Bool.or_eq_true, decide_eq_true_eq] at hb
    obtain ⟨C, T, N, g1, g2, g3, g4⟩ := hc x.1.2.1 (List.getElem?_eq_some_iff.mp hc9).1
    rw [hc9] at g1
    cases g1
    obtain ⟨⟨h1, h2⟩, h3⟩ := hb
    refine ⟨C, T, N, hc9, Nat.le_of_ble_eq_true h1, g2, nn_at_ok h2, g3, g4, fun hf => ?_⟩
    rcases h3 with h3 | h3
    · replace h3 : (T x.1.2.2.1).2.2.2 = true := h3
      rw [hf] at h3
      cases h3
    · exact h3
  · cases hb
/-- the methods' decoded instructions, one beside the other -/
def ab_dtP : List ab_MR → List ab_DT → Prop
  | m :: M, d :: D => ab_dtok m.2.1 d = true ∧ ab_dtP M D
  | [], [] => True
  | _, _ => False
theorem ab_dtP_app : ∀ {A : List ab_MR} {A' : List ab_DT} {B : List ab_MR} {B' : List ab_DT}, ab_dtP A A' → ab_dtP B B' → ab_dtP (A ++ B) (A' ++ B') := by
  intro A
  induction A with
  | nil =>
    intro A' B B' h1 h2
    cases A' with
    | nil => exact h2
    | cons d D => cases h1
  | cons m M ih =>
    intro A' B B' h1 h2
    cases A' with
    | nil => cases h1
    | cons d D => exact ⟨h1.1, ih h1.2 h2⟩
theorem ab_dtP_get : ∀ {A : List ab_MR} {A' : List ab_DT} {n : Nat} {mr : ab_MR} {dt : ab_DT}, ab_dtP A A' → A[n]? = some mr → A'[n]? = some dt → ab_dtok mr.2.1 dt = true := by
  intro A
  induction A with
  | nil => intro A' n mr dt _ h; cases h
  | cons m M ih =>
    intro A' n mr dt h h1 h2
    cases A' with
    | nil => cases h
    | cons d D =>
      cases n with
      | zero =>
        cases h1
        cases h2
        exact h.1
      | succ n => exact ih h.2 h1 h2
end
