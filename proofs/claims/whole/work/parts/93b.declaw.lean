/-! the law, its bytes -/
theorem dL_law__461 : decode cL_law_ 461 = .ok (.iconst 2, 1) := by decide +kernel
theorem dL_law__462 : decode cL_law_ 462 = .ok (.iadd, 1) := by decide +kernel
theorem dL_law__463 : decode cL_law_ 463 = .ok (.iaload, 1) := by decide +kernel
theorem dL_law__464 : decode cL_law_ 464 = .ok (.aload_n 3, 1) := by decide +kernel
theorem dL_law__465 : decode cL_law_ 465 = .ok (.invokestatic 146, 3) := by decide +kernel
theorem dL_law__468 : decode cL_law_ 468 = .ok (.istore 5, 2) := by decide +kernel
theorem dL_law__470 : decode cL_law_ 470 = .ok (.aload_n 2, 1) := by decide +kernel
theorem dL_law__471 : decode cL_law_ 471 = .ok (.aload_n 0, 1) := by decide +kernel
theorem dL_law__472 : decode cL_law_ 472 = .ok (.iload 4, 2) := by decide +kernel
theorem dL_law__474 : decode cL_law_ 474 = .ok (.iconst 1, 1) := by decide +kernel
theorem dL_law__475 : decode cL_law_ 475 = .ok (.iadd, 1) := by decide +kernel
theorem dL_law__476 : decode cL_law_ 476 = .ok (.iaload, 1) := by decide +kernel
theorem dL_law__477 : decode cL_law_ 477 = .ok (.aload_n 0, 1) := by decide +kernel
theorem dL_law__478 : decode cL_law_ 478 = .ok (.iload 4, 2) := by decide +kernel
theorem dL_law__480 : decode cL_law_ 480 = .ok (.iconst 2, 1) := by decide +kernel
theorem dL_law__481 : decode cL_law_ 481 = .ok (.iadd, 1) := by decide +kernel
theorem dL_law__482 : decode cL_law_ 482 = .ok (.iaload, 1) := by decide +kernel
theorem dL_law__483 : decode cL_law_ 483 = .ok (.invokevirtual 149, 3) := by decide +kernel
theorem dL_law__486 : decode cL_law_ 486 = .ok (.istore 6, 2) := by decide +kernel
theorem dL_law__488 : decode cL_law_ 488 = .ok (.aload_n 2, 1) := by decide +kernel
theorem dL_law__489 : decode cL_law_ 489 = .ok (.invokevirtual 136, 3) := by decide +kernel
theorem dL_law__492 : decode cL_law_ 492 = .ok (.iload 5, 2) := by decide +kernel
theorem dL_law__494 : decode cL_law_ 494 = .ok (.if_icmp .eq 5, 3) := by decide +kernel
theorem dL_law__499 : decode cL_law_ 499 = .ok (.iload 5, 2) := by decide +kernel
theorem dL_law__501 : decode cL_law_ 501 = .ok (.ifCond .ne 15, 3) := by decide +kernel
theorem dL_law__504 : decode cL_law_ 504 = .ok (.aload_n 3, 1) := by decide +kernel
theorem dL_law__505 : decode cL_law_ 505 = .ok (.iconst 0, 1) := by decide +kernel
theorem dL_law__506 : decode cL_law_ 506 = .ok (.laload, 1) := by decide +kernel
theorem dL_law__507 : decode cL_law_ 507 = .ok (.iload 6, 2) := by decide +kernel
theorem dL_law__509 : decode cL_law_ 509 = .ok (.i2l, 1) := by decide +kernel
theorem dL_law__510 : decode cL_law_ 510 = .ok (.lcmp, 1) := by decide +kernel
theorem dL_law__511 : decode cL_law_ 511 = .ok (.ifCond .eq 5, 3) := by decide +kernel
theorem dL_law__516 : decode cL_law_ 516 = .ok (.goto 2239, 3) := by decide +kernel
theorem dL_law__519 : decode cL_law_ 519 = .ok (.aload_n 1, 1) := by decide +kernel
theorem dL_law__520 : decode cL_law_ 520 = .ok (.aload_n 0, 1) := by decide +kernel
theorem dL_law__521 : decode cL_law_ 521 = .ok (.iload 4, 2) := by decide +kernel
theorem dL_law__523 : decode cL_law_ 523 = .ok (.iconst 1, 1) := by decide +kernel
theorem dL_law__524 : decode cL_law_ 524 = .ok (.iadd, 1) := by decide +kernel
theorem dL_law__525 : decode cL_law_ 525 = .ok (.iaload, 1) := by decide +kernel
theorem dL_law__526 : decode cL_law_ 526 = .ok (.aload_n 0, 1) := by decide +kernel
theorem dL_law__527 : decode cL_law_ 527 = .ok (.iload 4, 2) := by decide +kernel
theorem dL_law__529 : decode cL_law_ 529 = .ok (.iconst 2, 1) := by decide +kernel
theorem dL_law__530 : decode cL_law_ 530 = .ok (.iadd, 1) := by decide +kernel
theorem dL_law__531 : decode cL_law_ 531 = .ok (.iaload, 1) := by decide +kernel
theorem dL_law__532 : decode cL_law_ 532 = .ok (.aload_n 3, 1) := by decide +kernel
theorem dL_law__533 : decode cL_law_ 533 = .ok (.invokestatic 150, 3) := by decide +kernel
theorem dL_law__536 : decode cL_law_ 536 = .ok (.istore 5, 2) := by decide +kernel
theorem dL_law__538 : decode cL_law_ 538 = .ok (.aload_n 2, 1) := by decide +kernel
theorem dL_law__539 : decode cL_law_ 539 = .ok (.aload_n 0, 1) := by decide +kernel
theorem dL_law__540 : decode cL_law_ 540 = .ok (.iload 4, 2) := by decide +kernel
theorem dL_law__542 : decode cL_law_ 542 = .ok (.iconst 1, 1) := by decide +kernel
theorem dL_law__543 : decode cL_law_ 543 = .ok (.iadd, 1) := by decide +kernel
theorem dL_law__544 : decode cL_law_ 544 = .ok (.iaload, 1) := by decide +kernel
theorem dL_law__545 : decode cL_law_ 545 = .ok (.aload_n 0, 1) := by decide +kernel
theorem dL_law__546 : decode cL_law_ 546 = .ok (.iload 4, 2) := by decide +kernel
theorem dL_law__548 : decode cL_law_ 548 = .ok (.iconst 2, 1) := by decide +kernel
theorem dL_law__549 : decode cL_law_ 549 = .ok (.iadd, 1) := by decide +kernel
theorem dL_law__550 : decode cL_law_ 550 = .ok (.iaload, 1) := by decide +kernel
theorem dL_law__551 : decode cL_law_ 551 = .ok (.invokevirtual 152, 3) := by decide +kernel
theorem dL_law__554 : decode cL_law_ 554 = .ok (.istore 6, 2) := by decide +kernel
theorem dL_law__556 : decode cL_law_ 556 = .ok (.aload_n 2, 1) := by decide +kernel
theorem dL_law__557 : decode cL_law_ 557 = .ok (.invokevirtual 136, 3) := by decide +kernel
theorem dL_law__560 : decode cL_law_ 560 = .ok (.iload 5, 2) := by decide +kernel
theorem dL_law__562 : decode cL_law_ 562 = .ok (.if_icmp .eq 5, 3) := by decide +kernel
theorem dL_law__567 : decode cL_law_ 567 = .ok (.iload 5, 2) := by decide +kernel
theorem dL_law__569 : decode cL_law_ 569 = .ok (.ifCond .ne 15, 3) := by decide +kernel
theorem dL_law__572 : decode cL_law_ 572 = .ok (.aload_n 3, 1) := by decide +kernel
theorem dL_law__573 : decode cL_law_ 573 = .ok (.iconst 0, 1) := by decide +kernel
theorem dL_law__574 : decode cL_law_ 574 = .ok (.laload, 1) := by decide +kernel
theorem dL_law__575 : decode cL_law_ 575 = .ok (.iload 6, 2) := by decide +kernel
theorem dL_law__577 : decode cL_law_ 577 = .ok (.i2l, 1) := by decide +kernel
theorem dL_law__578 : decode cL_law_ 578 = .ok (.lcmp, 1) := by decide +kernel
theorem dL_law__579 : decode cL_law_ 579 = .ok (.ifCond .eq 5, 3) := by decide +kernel
theorem dL_law__584 : decode cL_law_ 584 = .ok (.goto 2171, 3) := by decide +kernel
theorem dL_law__587 : decode cL_law_ 587 = .ok (.aload_n 1, 1) := by decide +kernel
theorem dL_law__588 : decode cL_law_ 588 = .ok (.aload_n 0, 1) := by decide +kernel
theorem dL_law__589 : decode cL_law_ 589 = .ok (.iload 4, 2) := by decide +kernel
theorem dL_law__591 : decode cL_law_ 591 = .ok (.iconst 1, 1) := by decide +kernel
theorem dL_law__592 : decode cL_law_ 592 = .ok (.iadd, 1) := by decide +kernel
theorem dL_law__593 : decode cL_law_ 593 = .ok (.iaload, 1) := by decide +kernel
theorem dL_law__594 : decode cL_law_ 594 = .ok (.aload_n 0, 1) := by decide +kernel
theorem dL_law__595 : decode cL_law_ 595 = .ok (.iload 4, 2) := by decide +kernel
theorem dL_law__597 : decode cL_law_ 597 = .ok (.iconst 2, 1) := by decide +kernel
theorem dL_law__598 : decode cL_law_ 598 = .ok (.iadd, 1) := by decide +kernel
theorem dL_law__599 : decode cL_law_ 599 = .ok (.iaload, 1) := by decide +kernel
theorem dL_law__600 : decode cL_law_ 600 = .ok (.aload_n 3, 1) := by decide +kernel
theorem dL_law__601 : decode cL_law_ 601 = .ok (.invokestatic 153, 3) := by decide +kernel
theorem dL_law__604 : decode cL_law_ 604 = .ok (.istore 5, 2) := by decide +kernel
theorem dL_law__606 : decode cL_law_ 606 = .ok (.aload_n 2, 1) := by decide +kernel
theorem dL_law__607 : decode cL_law_ 607 = .ok (.aload_n 0, 1) := by decide +kernel
theorem dL_law__608 : decode cL_law_ 608 = .ok (.iload 4, 2) := by decide +kernel
theorem dL_law__610 : decode cL_law_ 610 = .ok (.iconst 1, 1) := by decide +kernel
theorem dL_law__611 : decode cL_law_ 611 = .ok (.iadd, 1) := by decide +kernel
theorem dL_law__612 : decode cL_law_ 612 = .ok (.iaload, 1) := by decide +kernel
theorem dL_law__613 : decode cL_law_ 613 = .ok (.aload_n 0, 1) := by decide +kernel
theorem dL_law__614 : decode cL_law_ 614 = .ok (.iload 4, 2) := by decide +kernel
theorem dL_law__616 : decode cL_law_ 616 = .ok (.iconst 2, 1) := by decide +kernel
theorem dL_law__617 : decode cL_law_ 617 = .ok (.iadd, 1) := by decide +kernel
theorem dL_law__618 : decode cL_law_ 618 = .ok (.iaload, 1) := by decide +kernel
theorem dL_law__619 : decode cL_law_ 619 = .ok (.invokevirtual 155, 3) := by decide +kernel
theorem dL_law__622 : decode cL_law_ 622 = .ok (.istore 6, 2) := by decide +kernel
theorem dL_law__624 : decode cL_law_ 624 = .ok (.aload_n 2, 1) := by decide +kernel
theorem dL_law__625 : decode cL_law_ 625 = .ok (.invokevirtual 136, 3) := by decide +kernel
theorem dL_law__628 : decode cL_law_ 628 = .ok (.iload 5, 2) := by decide +kernel
theorem dL_law__630 : decode cL_law_ 630 = .ok (.if_icmp .eq 5, 3) := by decide +kernel
theorem dL_law__635 : decode cL_law_ 635 = .ok (.iload 5, 2) := by decide +kernel
theorem dL_law__637 : decode cL_law_ 637 = .ok (.ifCond .ne 15, 3) := by decide +kernel
theorem dL_law__640 : decode cL_law_ 640 = .ok (.aload_n 3, 1) := by decide +kernel
theorem dL_law__641 : decode cL_law_ 641 = .ok (.iconst 0, 1) := by decide +kernel
theorem dL_law__642 : decode cL_law_ 642 = .ok (.laload, 1) := by decide +kernel
theorem dL_law__643 : decode cL_law_ 643 = .ok (.iload 6, 2) := by decide +kernel
theorem dL_law__645 : decode cL_law_ 645 = .ok (.i2l, 1) := by decide +kernel
theorem dL_law__646 : decode cL_law_ 646 = .ok (.lcmp, 1) := by decide +kernel
theorem dL_law__647 : decode cL_law_ 647 = .ok (.ifCond .eq 5, 3) := by decide +kernel
theorem dL_law__652 : decode cL_law_ 652 = .ok (.goto 2103, 3) := by decide +kernel
theorem dL_law__655 : decode cL_law_ 655 = .ok (.aload_n 1, 1) := by decide +kernel
theorem dL_law__656 : decode cL_law_ 656 = .ok (.aload_n 0, 1) := by decide +kernel
theorem dL_law__657 : decode cL_law_ 657 = .ok (.iload 4, 2) := by decide +kernel
theorem dL_law__659 : decode cL_law_ 659 = .ok (.iconst 1, 1) := by decide +kernel
theorem dL_law__660 : decode cL_law_ 660 = .ok (.iadd, 1) := by decide +kernel
theorem dL_law__661 : decode cL_law_ 661 = .ok (.iaload, 1) := by decide +kernel
theorem dL_law__662 : decode cL_law_ 662 = .ok (.aload_n 0, 1) := by decide +kernel
theorem dL_law__663 : decode cL_law_ 663 = .ok (.iload 4, 2) := by decide +kernel
theorem dL_law__665 : decode cL_law_ 665 = .ok (.iconst 2, 1) := by decide +kernel
theorem dL_law__666 : decode cL_law_ 666 = .ok (.iadd, 1) := by decide +kernel
theorem dL_law__667 : decode cL_law_ 667 = .ok (.iaload, 1) := by decide +kernel
theorem dL_law__668 : decode cL_law_ 668 = .ok (.aload_n 3, 1) := by decide +kernel
theorem dL_law__669 : decode cL_law_ 669 = .ok (.invokestatic 156, 3) := by decide +kernel
theorem dL_law__672 : decode cL_law_ 672 = .ok (.istore 5, 2) := by decide +kernel
theorem dL_law__674 : decode cL_law_ 674 = .ok (.aload_n 2, 1) := by decide +kernel
theorem dL_law__675 : decode cL_law_ 675 = .ok (.aload_n 0, 1) := by decide +kernel
theorem dL_law__676 : decode cL_law_ 676 = .ok (.iload 4, 2) := by decide +kernel
theorem dL_law__678 : decode cL_law_ 678 = .ok (.iconst 1, 1) := by decide +kernel
theorem dL_law__679 : decode cL_law_ 679 = .ok (.iadd, 1) := by decide +kernel
theorem dL_law__680 : decode cL_law_ 680 = .ok (.iaload, 1) := by decide +kernel
theorem dL_law__681 : decode cL_law_ 681 = .ok (.aload_n 0, 1) := by decide +kernel
theorem dL_law__682 : decode cL_law_ 682 = .ok (.iload 4, 2) := by decide +kernel
theorem dL_law__684 : decode cL_law_ 684 = .ok (.iconst 2, 1) := by decide +kernel
theorem dL_law__685 : decode cL_law_ 685 = .ok (.iadd, 1) := by decide +kernel
theorem dL_law__686 : decode cL_law_ 686 = .ok (.iaload, 1) := by decide +kernel
theorem dL_law__687 : decode cL_law_ 687 = .ok (.invokevirtual 158, 3) := by decide +kernel
theorem dL_law__690 : decode cL_law_ 690 = .ok (.istore 6, 2) := by decide +kernel
theorem dL_law__692 : decode cL_law_ 692 = .ok (.aload_n 2, 1) := by decide +kernel
theorem dL_law__693 : decode cL_law_ 693 = .ok (.invokevirtual 136, 3) := by decide +kernel
theorem dL_law__696 : decode cL_law_ 696 = .ok (.iload 5, 2) := by decide +kernel
theorem dL_law__698 : decode cL_law_ 698 = .ok (.if_icmp .eq 5, 3) := by decide +kernel
theorem dL_law__703 : decode cL_law_ 703 = .ok (.iload 5, 2) := by decide +kernel
theorem dL_law__705 : decode cL_law_ 705 = .ok (.ifCond .ne 15, 3) := by decide +kernel
theorem dL_law__708 : decode cL_law_ 708 = .ok (.aload_n 3, 1) := by decide +kernel
theorem dL_law__709 : decode cL_law_ 709 = .ok (.iconst 0, 1) := by decide +kernel
