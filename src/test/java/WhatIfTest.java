/** Promises 16 and 17: what if. */
public final class WhatIfTest extends Check {
    public static void main(String[] args) {
        promise16();
        promise16errors();
        promise17();
        promise17full();
        promise17spoiled();
        promise17errors();
        end();
    }

    private static void promise16() {
        SettingsVault vault = ready("+a100=50,+b100=60,+e9=1", "a*3,b/7,-e,+e8=8", "a/2,b>c,+d9=9,d/2");
        vault.set(0, 90);
        vault.set(1, 100);
        vault.set(2, 5);
        due("a in 1", vault.ifMigrated(1, 0), 255);
        due("a in 2", vault.ifMigrated(2, 0), 127);
        due("b in 1", vault.ifMigrated(1, 1), 14);
        due("c in 2", vault.ifMigrated(2, 2), 14);
        due("d in 2", vault.ifMigrated(2, 3), 4);
        due("e in 1", vault.ifMigrated(1, 4), 8);
        due("nothing changes", vault.get(0), 90);
        due("no write", vault.state(10), 9);
        due("no migration", vault.state(2), 0);
        vault.fail(0);
        due("whatever the power", vault.ifMigrated(2, 0), 127);
        due("it is still set", vault.fail(NONE), 1);
        due("migrate", vault.migrate(1), 9);
        due("a in 2 from 1", vault.ifMigrated(2, 0), 127);
    }

    private static void promise16errors() {
        SettingsVault vault = vault("+a100=50", "a>b", "b*2");
        due("no active page", vault.ifMigrated(1, 1), NOT_POSSIBLE);
        due("no active page, no version", vault.ifMigrated(7, 1), NOT_POSSIBLE);
        vault.factory(1);
        for (int version : new int[] {Integer.MIN_VALUE, -1, 3, 6, Integer.MAX_VALUE}) {
            due("version " + version, vault.ifMigrated(version, 1), NO_SUCH);
        }
        for (int name : new int[] {Integer.MIN_VALUE, -1, 0, 10, Integer.MAX_VALUE}) {
            due("name " + name, vault.ifMigrated(2, name), NO_SUCH);
        }
        due("present version", vault.ifMigrated(1, 1), BAD_VALUE);
        due("earlier version", vault.ifMigrated(0, 0), BAD_VALUE);
        due("earlier version, no name there", vault.ifMigrated(0, 1), NO_SUCH);
        vault.fail(0);
        vault.compact();
        due("off", vault.ifMigrated(2, 1), NOT_POSSIBLE);
    }

    private static void promise17() {
        SettingsVault vault = ready("+a99=10,+b9=1");
        vault.set(0, 50);
        vault.fail(1);
        for (int writes : new int[] {0, 1, 2}) {
            due("behind " + writes, vault.ifFailed(0, 60, writes, 0), 50);
        }
        due("behind 3", vault.ifFailed(0, 60, 3, 0), 60);
        due("behind 200", vault.ifFailed(0, 60, 200, 0), 60);
        due("another is asked for", vault.ifFailed(0, 60, 200, 1), 1);
        due("the same value", vault.ifFailed(0, 50, 0, 0), 50);
        due("nothing changes", vault.get(0), 50);
        due("no write", vault.state(10), 6);
        due("the power is on", vault.state(0), 1);
        due("the failure stays set", vault.state(9), 1);
        due("no cell", vault.cell(0, 6), NONE);
    }

    private static void promise17full() {
        SettingsVault vault = ready("+a99=10,+b9=1");
        vault.set(1, 7);
        for (int i = 0; i < 14; i++) {
            vault.set(0, 20 + i);
        }
        due("full", vault.state(4), 0);
        for (int writes = 0; writes < 9; writes++) {
            due("behind " + writes, vault.ifFailed(0, 60, writes, 0), 33);
        }
        due("behind 9", vault.ifFailed(0, 60, 9, 0), 60);
        due("b", vault.ifFailed(0, 60, 9, 1), 7);
        due("the default takes less", vault.ifFailed(0, 10, 6, 0), 10);
        due("but not so little", vault.ifFailed(0, 10, 5, 0), 33);
        due("nothing changes", vault.state(11), 2);
        due("nor here", vault.page(1, 5), 0);
        vault.spoil(0, 0, 0);
        due("a lost page", vault.ifFailed(0, 60, 8, 0), NONE);
        due("saved in time", vault.ifFailed(0, 60, 9, 0), 60);
    }

    private static void promise17spoiled() {
        SettingsVault vault = ready("+a99=10,+b9=1", "a/2,b>c");
        vault.set(0, 50);
        vault.spoil(0, 4, 51);
        due("a spoiled record", vault.ifFailed(0, 50, 0, 0), 10);
        vault.spoil(0, 3, NONE);
        due("a new one behind it", vault.ifFailed(0, 60, 3, 0), 10);
        spoilHead(vault, 1, 1, 1);
        due("another page is found", vault.ifFailed(0, 60, 200, 0), 5);
        due("without this setting", vault.ifFailed(0, 60, 200, 1), NONE);
        due("a setting of the other version", vault.ifFailed(0, 60, 200, 2), NO_SUCH);
        vault.spoil(1, 0, NONE);
        vault.spoil(0, 0, NONE);
        due("none is found", vault.ifFailed(1, 2, 200, 0), NONE);
        due("still active", vault.state(1), 0);
    }

    private static void promise17errors() {
        SettingsVault vault = vault("+a99=10,+b9=1", "b>c");
        due("no active page", vault.ifFailed(0, 1, 0, 0), NO_SUCH);
        vault.factory(0);
        for (int name : new int[] {Integer.MIN_VALUE, -1, 2, 10, Integer.MAX_VALUE}) {
            due("name " + name, vault.ifFailed(name, 1, 0, 0), NO_SUCH);
            due("asked " + name, vault.ifFailed(0, -1, -1, name), NO_SUCH);
        }
        for (int value : new int[] {Integer.MIN_VALUE, NONE, -1, 10, 256, Integer.MAX_VALUE}) {
            due("value " + value, vault.ifFailed(1, value, 0, 0), BAD_VALUE);
        }
        for (int writes : new int[] {Integer.MIN_VALUE, NONE, -1, 201, Integer.MAX_VALUE}) {
            due("writes " + writes, vault.ifFailed(1, 2, writes, 0), BAD_VALUE);
        }
        vault.fail(0);
        vault.compact();
        due("off", vault.ifFailed(0, 1, 0, 0), NOT_POSSIBLE);
        due("off, no name", vault.ifFailed(5, 1, 0, 0), NOT_POSSIBLE);
    }
}
