section
/-! contracts that the law calls under a tag -/
end
section
/-! a sentence, as it was begun: a studio laid or none -/
end
